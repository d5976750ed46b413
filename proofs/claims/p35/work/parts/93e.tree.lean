set_option maxRecDepth 20000 in
theorem t_M_day {G : jv_X} {d : Nat} {B : Option Value → jg_H → Prop} {s : jg_H} 
    (k1 : ¬ (s 146 16) = 999 → ∀ s1 : jg_H, s1 = jg_up s 146 16 ((s 146 16) + 1) → ∀ s2 : jg_H, s2 = jg_up s1 146 17 0 → B (some (.int (s2 146 16))) s2)
    (k2 : (s 146 16) = 999 → B (some (.int (-4))) s) :
    q_P G (d + 1) 204 [.ref 146] s B := by
  refine q_in (M := jm_M_day) rfl (Nat.le_of_ble_eq_true rfl) (ls := [some (.ref 146)]) rfl ?_
  refine q_aload_n (pc' := 1) ja_M_day_0 rfl rfl ?_
  refine q_getf (pc' := 4) (v := .int (s 146 16)) ja_M_day_1 rfl (by decide) ⟨rfl, by decide⟩ rfl ?_
  refine q_sipush (pc' := 7) ja_M_day_4 rfl 999 (by decide) ?_
  refine q_ic_ne (pc' := 10) ja_M_day_7 rfl ?_ ?_
  · intro h1
    refine q_aload_n (pc' := 14) ja_M_day_13 rfl rfl ?_
    refine q_dup (pc' := 15) ja_M_day_14 rfl rfl ?_
    refine q_getf (pc' := 18) (v := .int (s 146 16)) ja_M_day_15 rfl (by decide) ⟨rfl, by decide⟩ rfl ?_
    refine q_iconst (pc' := 19) ja_M_day_18 rfl 1 (by decide) ?_
    refine q_iadd (pc' := 20) ja_M_day_19 rfl ?_
    refine q_putf (pc' := 23) ja_M_day_20 rfl (by decide) rfl rfl rfl ?_
    intro s1 e1
    refine q_aload_n (pc' := 24) ja_M_day_23 rfl rfl ?_
    refine q_iconst (pc' := 25) ja_M_day_24 rfl 0 (by decide) ?_
    refine q_putf (pc' := 28) ja_M_day_25 rfl (by decide) rfl rfl rfl ?_
    intro s2 e2
    refine q_aload_n (pc' := 29) ja_M_day_28 rfl rfl ?_
    refine q_getf (pc' := 32) (v := .int (s2 146 16)) ja_M_day_29 rfl (by decide) ⟨rfl, by decide⟩ rfl ?_
    exact q_iret ja_M_day_32 rfl rfl (k1 h1 s1 e1 s2 e2)
  · intro h2
    refine q_bipush (pc' := 12) ja_M_day_10 rfl (-4) (by decide) ?_
    exact q_iret ja_M_day_12 rfl rfl (k2 h2)
set_option maxRecDepth 20000 in
theorem t_M_does {G : jv_X} {d : Nat} {B : Option Value → jg_H → Prop} {s : jg_H} (a1 : Int32)
    (k1 : jv_in a1 13 = true)
    (k2 : (s 161 a1.toNatClampNeg) = 0 → jv_in a1 13 = true)
    (k3 : (s 161 a1.toNatClampNeg) = 0 → jv_in a1 13 = true)
    (k4 : (s 161 a1.toNatClampNeg) = 0 → ¬ (s 157 a1.toNatClampNeg) = 3 → jv_in a1 13 = true)
    (k5 : (s 161 a1.toNatClampNeg) = 0 → ¬ (s 157 a1.toNatClampNeg) = 3 → ¬ (s 157 a1.toNatClampNeg) = 1 → q_W G (d + 1) jm_M_does B 89 [some (.ref 146), some (.int a1), some (.int (s 159 a1.toNatClampNeg)), some (.int (s 146 53))] [] s)
    (k6 : (s 161 a1.toNatClampNeg) = 0 → ¬ (s 157 a1.toNatClampNeg) = 3 → (s 157 a1.toNatClampNeg) = 1 → ∀ s1 : jg_H, s1 = jg_up s 146 53 ((s 146 53) - 1) → q_W G (d + 1) jm_M_does B 53 [some (.ref 146), some (.int a1), some (.int (s 159 a1.toNatClampNeg)), some (.int (s 159 a1.toNatClampNeg))] [] s1)
    (k7 : (s 161 a1.toNatClampNeg) = 0 → (s 157 a1.toNatClampNeg) = 3 → jv_in a1 13 = true)
    (k8 : (s 161 a1.toNatClampNeg) = 0 → (s 157 a1.toNatClampNeg) = 3 → jv_in (s 159 a1.toNatClampNeg) 11 = true)
    (k9 : (s 161 a1.toNatClampNeg) = 0 → (s 157 a1.toNatClampNeg) = 3 → ∀ s2 : jg_H, s2 = jg_up s 171 (s 159 a1.toNatClampNeg).toNatClampNeg (s 160 a1.toNatClampNeg) → B none s2)
    (k10 : ¬ (s 161 a1.toNatClampNeg) = 0 → jv_in a1 13 = true)
    (k11 : ¬ (s 161 a1.toNatClampNeg) = 0 → ¬ (s 157 a1.toNatClampNeg) = 3 → jv_in a1 13 = true)
    (k12 : ¬ (s 161 a1.toNatClampNeg) = 0 → ¬ (s 157 a1.toNatClampNeg) = 3 → ¬ (s 157 a1.toNatClampNeg) = 1 → q_W G (d + 1) jm_M_does B 89 [some (.ref 146), some (.int a1), some (.int (s 146 53)), some (.int (s 146 53))] [] s)
    (k13 : ¬ (s 161 a1.toNatClampNeg) = 0 → ¬ (s 157 a1.toNatClampNeg) = 3 → (s 157 a1.toNatClampNeg) = 1 → ∀ s3 : jg_H, s3 = jg_up s 146 53 ((s 146 53) - 1) → q_W G (d + 1) jm_M_does B 53 [some (.ref 146), some (.int a1), some (.int (s 146 53)), some (.int (s 146 53))] [] s3)
    (k14 : ¬ (s 161 a1.toNatClampNeg) = 0 → (s 157 a1.toNatClampNeg) = 3 → jv_in a1 13 = true)
    (k15 : ¬ (s 161 a1.toNatClampNeg) = 0 → (s 157 a1.toNatClampNeg) = 3 → jv_in (s 146 53) 11 = true)
    (k16 : ¬ (s 161 a1.toNatClampNeg) = 0 → (s 157 a1.toNatClampNeg) = 3 → ∀ s4 : jg_H, s4 = jg_up s 171 (s 146 53).toNatClampNeg (s 160 a1.toNatClampNeg) → B none s4) :
    q_P G (d + 2) 198 [.ref 146, .int a1] s B := by
  refine q_in (M := jm_M_does) rfl (Nat.le_of_ble_eq_true rfl) (ls := [some (.ref 146), some (.int a1), none, none]) rfl ?_
  refine q_aload_n (pc' := 1) ja_M_does_0 rfl rfl ?_
  refine q_iload_n (pc' := 2) ja_M_does_1 rfl rfl ?_
  refine q_virt (pc' := 5) (c := 146) (as := [.int a1]) (r := []) ja_M_does_2 rfl rfl rfl (by decide) ⟨rfl, by decide⟩ ?_
  refine q_in (M := jm_M_sectionOf) rfl (Nat.le_of_ble_eq_true rfl) (ls := [some (.ref 146), some (.int a1)]) rfl ?_
  refine q_aload_n (pc' := 1) ja_M_sectionOf_0 rfl rfl ?_
  refine q_getf (pc' := 4) (v := .ref 161) ja_M_sectionOf_1 rfl (by decide) ⟨rfl, by decide⟩ rfl ?_
  refine q_iload_n (pc' := 5) ja_M_sectionOf_4 rfl rfl ?_
  refine q_bald (pc' := 6) (v := .int (s 161 a1.toNatClampNeg)) ja_M_sectionOf_5 rfl (by decide) (l := 13) rfl k1 rfl ?_
  refine q_if_eq (pc' := 9) ja_M_sectionOf_6 rfl ?_ ?_
  · intro h1
    refine q_aload_n (pc' := 17) ja_M_sectionOf_16 rfl rfl ?_
    refine q_getf (pc' := 20) (v := .ref 159) ja_M_sectionOf_17 rfl (by decide) ⟨rfl, by decide⟩ rfl ?_
    refine q_iload_n (pc' := 21) ja_M_sectionOf_20 rfl rfl ?_
    refine q_iald (pc' := 22) (v := .int (s 159 a1.toNatClampNeg)) ja_M_sectionOf_21 rfl (by decide) (l := 13) rfl (k2 h1) rfl ?_
    refine q_iret ja_M_sectionOf_22 rfl rfl ?_
    show q_W _ _ _ _ 5 [some (.ref 146), some (.int a1), none, none] [.int (s 159 a1.toNatClampNeg)] s
    refine q_istore_n (pc' := 6) (ls' := [some (.ref 146), some (.int a1), some (.int (s 159 a1.toNatClampNeg)), none]) ja_M_does_5 rfl ⟨Nat.le_of_ble_eq_true rfl, rfl⟩ rfl ?_
    refine q_aload_n (pc' := 7) ja_M_does_6 rfl rfl ?_
    refine q_getf (pc' := 10) (v := .ref 157) ja_M_does_7 rfl (by decide) ⟨rfl, by decide⟩ rfl ?_
    refine q_iload_n (pc' := 11) ja_M_does_10 rfl rfl ?_
    refine q_iald (pc' := 12) (v := .int (s 157 a1.toNatClampNeg)) ja_M_does_11 rfl (by decide) (l := 13) rfl (k3 h1) rfl ?_
    refine q_iconst (pc' := 13) ja_M_does_12 rfl 3 (by decide) ?_
    refine q_ic_ne (pc' := 16) ja_M_does_13 rfl ?_ ?_
    · intro h2
      refine q_aload_n (pc' := 32) ja_M_does_31 rfl rfl ?_
      refine q_getf (pc' := 35) (v := .ref 157) ja_M_does_32 rfl (by decide) ⟨rfl, by decide⟩ rfl ?_
      refine q_iload_n (pc' := 36) ja_M_does_35 rfl rfl ?_
      refine q_iald (pc' := 37) (v := .int (s 157 a1.toNatClampNeg)) ja_M_does_36 rfl (by decide) (l := 13) rfl (k4 h1 h2) rfl ?_
      refine q_iconst (pc' := 38) ja_M_does_37 rfl 1 (by decide) ?_
      refine q_ic_ne (pc' := 41) ja_M_does_38 rfl ?_ ?_
      · intro h3
        refine q_aload_n (pc' := 85) ja_M_does_84 rfl rfl ?_
        refine q_getf (pc' := 88) (v := .int (s 146 53)) ja_M_does_85 rfl (by decide) ⟨rfl, by decide⟩ rfl ?_
        refine q_istore_n (pc' := 89) (ls' := [some (.ref 146), some (.int a1), some (.int (s 159 a1.toNatClampNeg)), some (.int (s 146 53))]) ja_M_does_88 rfl ⟨Nat.le_of_ble_eq_true rfl, rfl⟩ rfl ?_
        exact (k5 h1 h2 h3)
      · intro h4
        refine q_aload_n (pc' := 42) ja_M_does_41 rfl rfl ?_
        refine q_dup (pc' := 43) ja_M_does_42 rfl rfl ?_
        refine q_getf (pc' := 46) (v := .int (s 146 53)) ja_M_does_43 rfl (by decide) ⟨rfl, by decide⟩ rfl ?_
        refine q_iconst (pc' := 47) ja_M_does_46 rfl 1 (by decide) ?_
        refine q_isub (pc' := 48) ja_M_does_47 rfl ?_
        refine q_putf (pc' := 51) ja_M_does_48 rfl (by decide) rfl rfl rfl ?_
        intro s1 e1
        refine q_iload_n (pc' := 52) ja_M_does_51 rfl rfl ?_
        refine q_istore_n (pc' := 53) (ls' := [some (.ref 146), some (.int a1), some (.int (s 159 a1.toNatClampNeg)), some (.int (s 159 a1.toNatClampNeg))]) ja_M_does_52 rfl ⟨Nat.le_of_ble_eq_true rfl, rfl⟩ rfl ?_
        exact (k6 h1 h2 h4 s1 e1)
    · intro h5
      refine q_aload_n (pc' := 17) ja_M_does_16 rfl rfl ?_
      refine q_getf (pc' := 20) (v := .ref 171) ja_M_does_17 rfl (by decide) ⟨rfl, by decide⟩ rfl ?_
      refine q_iload_n (pc' := 21) ja_M_does_20 rfl rfl ?_
      refine q_aload_n (pc' := 22) ja_M_does_21 rfl rfl ?_
      refine q_getf (pc' := 25) (v := .ref 160) ja_M_does_22 rfl (by decide) ⟨rfl, by decide⟩ rfl ?_
      refine q_iload_n (pc' := 26) ja_M_does_25 rfl rfl ?_
      refine q_iald (pc' := 27) (v := .int (s 160 a1.toNatClampNeg)) ja_M_does_26 rfl (by decide) (l := 13) rfl (k7 h1 h5) rfl ?_
      refine q_iast (pc' := 28) ja_M_does_27 rfl (by decide) (l := 11) rfl (k8 h1 h5) ?_
      intro s2 e2
      refine q_goto ja_M_does_28 ?_
      exact q_vret ja_M_does_136 rfl (k9 h1 h5 s2 e2)
  · intro h6
    refine q_aload_n (pc' := 10) ja_M_sectionOf_9 rfl rfl ?_
    refine q_getf (pc' := 13) (v := .int (s 146 53)) ja_M_sectionOf_10 rfl (by decide) ⟨rfl, by decide⟩ rfl ?_
    refine q_goto ja_M_sectionOf_13 ?_
    refine q_iret ja_M_sectionOf_22 rfl rfl ?_
    show q_W _ _ _ _ 5 [some (.ref 146), some (.int a1), none, none] [.int (s 146 53)] s
    refine q_istore_n (pc' := 6) (ls' := [some (.ref 146), some (.int a1), some (.int (s 146 53)), none]) ja_M_does_5 rfl ⟨Nat.le_of_ble_eq_true rfl, rfl⟩ rfl ?_
    refine q_aload_n (pc' := 7) ja_M_does_6 rfl rfl ?_
    refine q_getf (pc' := 10) (v := .ref 157) ja_M_does_7 rfl (by decide) ⟨rfl, by decide⟩ rfl ?_
    refine q_iload_n (pc' := 11) ja_M_does_10 rfl rfl ?_
    refine q_iald (pc' := 12) (v := .int (s 157 a1.toNatClampNeg)) ja_M_does_11 rfl (by decide) (l := 13) rfl (k10 h6) rfl ?_
    refine q_iconst (pc' := 13) ja_M_does_12 rfl 3 (by decide) ?_
    refine q_ic_ne (pc' := 16) ja_M_does_13 rfl ?_ ?_
    · intro h7
      refine q_aload_n (pc' := 32) ja_M_does_31 rfl rfl ?_
      refine q_getf (pc' := 35) (v := .ref 157) ja_M_does_32 rfl (by decide) ⟨rfl, by decide⟩ rfl ?_
      refine q_iload_n (pc' := 36) ja_M_does_35 rfl rfl ?_
      refine q_iald (pc' := 37) (v := .int (s 157 a1.toNatClampNeg)) ja_M_does_36 rfl (by decide) (l := 13) rfl (k11 h6 h7) rfl ?_
      refine q_iconst (pc' := 38) ja_M_does_37 rfl 1 (by decide) ?_
      refine q_ic_ne (pc' := 41) ja_M_does_38 rfl ?_ ?_
      · intro h8
        refine q_aload_n (pc' := 85) ja_M_does_84 rfl rfl ?_
        refine q_getf (pc' := 88) (v := .int (s 146 53)) ja_M_does_85 rfl (by decide) ⟨rfl, by decide⟩ rfl ?_
        refine q_istore_n (pc' := 89) (ls' := [some (.ref 146), some (.int a1), some (.int (s 146 53)), some (.int (s 146 53))]) ja_M_does_88 rfl ⟨Nat.le_of_ble_eq_true rfl, rfl⟩ rfl ?_
        exact (k12 h6 h7 h8)
      · intro h9
        refine q_aload_n (pc' := 42) ja_M_does_41 rfl rfl ?_
        refine q_dup (pc' := 43) ja_M_does_42 rfl rfl ?_
        refine q_getf (pc' := 46) (v := .int (s 146 53)) ja_M_does_43 rfl (by decide) ⟨rfl, by decide⟩ rfl ?_
        refine q_iconst (pc' := 47) ja_M_does_46 rfl 1 (by decide) ?_
        refine q_isub (pc' := 48) ja_M_does_47 rfl ?_
        refine q_putf (pc' := 51) ja_M_does_48 rfl (by decide) rfl rfl rfl ?_
        intro s3 e3
        refine q_iload_n (pc' := 52) ja_M_does_51 rfl rfl ?_
        refine q_istore_n (pc' := 53) (ls' := [some (.ref 146), some (.int a1), some (.int (s 146 53)), some (.int (s 146 53))]) ja_M_does_52 rfl ⟨Nat.le_of_ble_eq_true rfl, rfl⟩ rfl ?_
        exact (k13 h6 h7 h9 s3 e3)
    · intro h10
      refine q_aload_n (pc' := 17) ja_M_does_16 rfl rfl ?_
      refine q_getf (pc' := 20) (v := .ref 171) ja_M_does_17 rfl (by decide) ⟨rfl, by decide⟩ rfl ?_
      refine q_iload_n (pc' := 21) ja_M_does_20 rfl rfl ?_
      refine q_aload_n (pc' := 22) ja_M_does_21 rfl rfl ?_
      refine q_getf (pc' := 25) (v := .ref 160) ja_M_does_22 rfl (by decide) ⟨rfl, by decide⟩ rfl ?_
      refine q_iload_n (pc' := 26) ja_M_does_25 rfl rfl ?_
      refine q_iald (pc' := 27) (v := .int (s 160 a1.toNatClampNeg)) ja_M_does_26 rfl (by decide) (l := 13) rfl (k14 h6 h10) rfl ?_
      refine q_iast (pc' := 28) ja_M_does_27 rfl (by decide) (l := 11) rfl (k15 h6 h10) ?_
      intro s4 e4
      refine q_goto ja_M_does_28 ?_
      exact q_vret ja_M_does_136 rfl (k16 h6 h10 s4 e4)
set_option maxRecDepth 20000 in
theorem t_M_does_53 {G : jv_X} {d : Nat} {B : Option Value → jg_H → Prop} {s : jg_H} (x1 : Int32) (x2 : Int32) (x3 : Int32)
    (k1 : ¬ x3 < (s 146 53) → B none s)
    (k2 : x3 < (s 146 53) → jv_in (x3 + 1) 11 = true)
    (k3 : x3 < (s 146 53) → jv_in x3 11 = true)
    (k4 : x3 < (s 146 53) → ∀ s1 : jg_H, s1 = jg_up s 171 x3.toNatClampNeg (s 171 (x3 + 1).toNatClampNeg) → q_W G (d + 1) jm_M_does B 53 [some (.ref 146), some (.int x1), some (.int x2), some (.int (x3 + 1))] [] s1) :
    q_W G (d + 1) jm_M_does B 53 [some (.ref 146), some (.int x1), some (.int x2), some (.int x3)] [] s := by
  refine q_iload_n (pc' := 54) ja_M_does_53 rfl rfl ?_
  refine q_aload_n (pc' := 55) ja_M_does_54 rfl rfl ?_
  refine q_getf (pc' := 58) (v := .int (s 146 53)) ja_M_does_55 rfl (by decide) ⟨rfl, by decide⟩ rfl ?_
  refine q_ic_ge (pc' := 61) ja_M_does_58 rfl ?_ ?_
  · intro h1
    refine q_goto ja_M_does_81 ?_
    exact q_vret ja_M_does_136 rfl (k1 h1)
  · intro h2
    refine q_aload_n (pc' := 62) ja_M_does_61 rfl rfl ?_
    refine q_getf (pc' := 65) (v := .ref 171) ja_M_does_62 rfl (by decide) ⟨rfl, by decide⟩ rfl ?_
    refine q_iload_n (pc' := 66) ja_M_does_65 rfl rfl ?_
    refine q_aload_n (pc' := 67) ja_M_does_66 rfl rfl ?_
    refine q_getf (pc' := 70) (v := .ref 171) ja_M_does_67 rfl (by decide) ⟨rfl, by decide⟩ rfl ?_
    refine q_iload_n (pc' := 71) ja_M_does_70 rfl rfl ?_
    refine q_iconst (pc' := 72) ja_M_does_71 rfl 1 (by decide) ?_
    refine q_iadd (pc' := 73) ja_M_does_72 rfl ?_
    refine q_iald (pc' := 74) (v := .int (s 171 (x3 + 1).toNatClampNeg)) ja_M_does_73 rfl (by decide) (l := 11) rfl (k2 h2) rfl ?_
    refine q_iast (pc' := 75) ja_M_does_74 rfl (by decide) (l := 11) rfl (k3 h2) ?_
    intro s1 e1
    refine q_iinc (pc' := 78) (ls' := [some (.ref 146), some (.int x1), some (.int x2), some (.int (x3 + 1))]) ja_M_does_75 rfl rfl (x3 + 1) rfl ⟨Nat.le_of_ble_eq_true rfl, rfl⟩ rfl ?_
    refine q_goto ja_M_does_78 ?_
    exact (k4 h2 s1 e1)
set_option maxRecDepth 20000 in
theorem t_M_does_89 {G : jv_X} {d : Nat} {B : Option Value → jg_H → Prop} {s : jg_H} (x1 : Int32) (x2 : Int32) (x3 : Int32)
    (k1 : x3 ≤ x2 → jv_in x1 13 = true)
    (k2 : x3 ≤ x2 → jv_in x2 11 = true)
    (k3 : x3 ≤ x2 → ∀ s1 : jg_H, s1 = jg_up s 171 x2.toNatClampNeg (s 160 x1.toNatClampNeg) → ∀ s2 : jg_H, s2 = jg_up s1 146 53 ((s1 146 53) + 1) → B none s2)
    (k4 : ¬ x3 ≤ x2 → jv_in (x3 - 1) 11 = true)
    (k5 : ¬ x3 ≤ x2 → jv_in x3 11 = true)
    (k6 : ¬ x3 ≤ x2 → ∀ s3 : jg_H, s3 = jg_up s 171 x3.toNatClampNeg (s 171 (x3 - 1).toNatClampNeg) → q_W G (d + 1) jm_M_does B 89 [some (.ref 146), some (.int x1), some (.int x2), some (.int (x3 + (-1)))] [] s3) :
    q_W G (d + 1) jm_M_does B 89 [some (.ref 146), some (.int x1), some (.int x2), some (.int x3)] [] s := by
  refine q_iload_n (pc' := 90) ja_M_does_89 rfl rfl ?_
  refine q_iload_n (pc' := 91) ja_M_does_90 rfl rfl ?_
  refine q_ic_le (pc' := 94) ja_M_does_91 rfl ?_ ?_
  · intro h1
    refine q_aload_n (pc' := 115) ja_M_does_114 rfl rfl ?_
    refine q_getf (pc' := 118) (v := .ref 171) ja_M_does_115 rfl (by decide) ⟨rfl, by decide⟩ rfl ?_
    refine q_iload_n (pc' := 119) ja_M_does_118 rfl rfl ?_
    refine q_aload_n (pc' := 120) ja_M_does_119 rfl rfl ?_
    refine q_getf (pc' := 123) (v := .ref 160) ja_M_does_120 rfl (by decide) ⟨rfl, by decide⟩ rfl ?_
    refine q_iload_n (pc' := 124) ja_M_does_123 rfl rfl ?_
    refine q_iald (pc' := 125) (v := .int (s 160 x1.toNatClampNeg)) ja_M_does_124 rfl (by decide) (l := 13) rfl (k1 h1) rfl ?_
    refine q_iast (pc' := 126) ja_M_does_125 rfl (by decide) (l := 11) rfl (k2 h1) ?_
    intro s1 e1
    refine q_aload_n (pc' := 127) ja_M_does_126 rfl rfl ?_
    refine q_dup (pc' := 128) ja_M_does_127 rfl rfl ?_
    refine q_getf (pc' := 131) (v := .int (s1 146 53)) ja_M_does_128 rfl (by decide) ⟨rfl, by decide⟩ rfl ?_
    refine q_iconst (pc' := 132) ja_M_does_131 rfl 1 (by decide) ?_
    refine q_iadd (pc' := 133) ja_M_does_132 rfl ?_
    refine q_putf (pc' := 136) ja_M_does_133 rfl (by decide) rfl rfl rfl ?_
    intro s2 e2
    exact q_vret ja_M_does_136 rfl (k3 h1 s1 e1 s2 e2)
  · intro h2
    refine q_aload_n (pc' := 95) ja_M_does_94 rfl rfl ?_
    refine q_getf (pc' := 98) (v := .ref 171) ja_M_does_95 rfl (by decide) ⟨rfl, by decide⟩ rfl ?_
    refine q_iload_n (pc' := 99) ja_M_does_98 rfl rfl ?_
    refine q_aload_n (pc' := 100) ja_M_does_99 rfl rfl ?_
    refine q_getf (pc' := 103) (v := .ref 171) ja_M_does_100 rfl (by decide) ⟨rfl, by decide⟩ rfl ?_
    refine q_iload_n (pc' := 104) ja_M_does_103 rfl rfl ?_
    refine q_iconst (pc' := 105) ja_M_does_104 rfl 1 (by decide) ?_
    refine q_isub (pc' := 106) ja_M_does_105 rfl ?_
    refine q_iald (pc' := 107) (v := .int (s 171 (x3 - 1).toNatClampNeg)) ja_M_does_106 rfl (by decide) (l := 11) rfl (k4 h2) rfl ?_
    refine q_iast (pc' := 108) ja_M_does_107 rfl (by decide) (l := 11) rfl (k5 h2) ?_
    intro s3 e3
    refine q_iinc (pc' := 111) (ls' := [some (.ref 146), some (.int x1), some (.int x2), some (.int (x3 + (-1)))]) ja_M_does_108 rfl rfl (x3 + (-1)) rfl ⟨Nat.le_of_ble_eq_true rfl, rfl⟩ rfl ?_
    refine q_goto ja_M_does_111 ?_
    exact (k6 h2 s3 e3)
set_option maxRecDepth 20000 in
theorem t_M_either {G : jv_X} {d : Nat} {B : Option Value → jg_H → Prop} {s : jg_H} 
    (k1 : q_P G (d + 1) 144 [.ref 146] s (fun v t => q_W G (d + 1) jm_M_either B 4 [some (.ref 146)] (v.toList ++ []) t)) :
    q_P G (d + 2) 143 [.ref 146] s B := by
  refine q_in (M := jm_M_either) rfl (Nat.le_of_ble_eq_true rfl) (ls := [some (.ref 146)]) rfl ?_
  refine q_aload_n (pc' := 1) ja_M_either_0 rfl rfl ?_
  refine q_virt (pc' := 4) (c := 146) (as := []) (r := []) ja_M_either_1 rfl rfl rfl (by decide) ⟨rfl, by decide⟩ ?_
  exact k1
set_option maxRecDepth 20000 in
theorem t_M_either_4 {G : jv_X} {d : Nat} {B : Option Value → jg_H → Prop} {s : jg_H} 
    (k1 : (s 146 44) = (-1) → ¬ (s 146 42) = 304 → B none s)
    (k2 : (s 146 44) = (-1) → (s 146 42) = 304 → q_P G (d + 1) 134 [.ref 146] s (fun v t => q_W G (d + 1) jm_M_either B 25 [some (.ref 146)] (v.toList ++ []) t))
    (k3 : ¬ (s 146 44) = (-1) → B none s) :
    q_W G (d + 1) jm_M_either B 4 [some (.ref 146)] [] s := by
  refine q_aload_n (pc' := 5) ja_M_either_4 rfl rfl ?_
  refine q_virt (pc' := 8) (c := 146) (as := []) (r := []) ja_M_either_5 rfl rfl rfl (by decide) ⟨rfl, by decide⟩ ?_
  refine q_in (M := jm_M_isWrong) rfl (Nat.le_of_ble_eq_true rfl) (ls := [some (.ref 146)]) rfl ?_
  refine q_aload_n (pc' := 1) ja_M_isWrong_0 rfl rfl ?_
  refine q_getf (pc' := 4) (v := .int (s 146 44)) ja_M_isWrong_1 rfl (by decide) ⟨rfl, by decide⟩ rfl ?_
  refine q_iconst (pc' := 5) ja_M_isWrong_4 rfl (-1) (by decide) ?_
  refine q_ic_eq (pc' := 8) ja_M_isWrong_5 rfl ?_ ?_
  · intro h1
    refine q_iconst (pc' := 13) ja_M_isWrong_12 rfl 0 (by decide) ?_
    refine q_iret ja_M_isWrong_13 rfl (by decide) ?_
    show q_W _ _ _ _ 8 [some (.ref 146)] [.int 0] s
    refine q_if_ne (pc' := 11) ja_M_either_8 rfl (fun h => absurd ((by decide : (0 : Int32) = 0)) h) (fun _ => ?_)
    refine q_aload_n (pc' := 12) ja_M_either_11 rfl rfl ?_
    refine q_getf (pc' := 15) (v := .int (s 146 42)) ja_M_either_12 rfl (by decide) ⟨rfl, by decide⟩ rfl ?_
    refine q_sipush (pc' := 18) ja_M_either_15 rfl 304 (by decide) ?_
    refine q_ic_ne (pc' := 21) ja_M_either_18 rfl ?_ ?_
    · intro h2
      exact q_vret ja_M_either_38 rfl (k1 h1 h2)
    · intro h3
      refine q_aload_n (pc' := 22) ja_M_either_21 rfl rfl ?_
      refine q_virt (pc' := 25) (c := 146) (as := []) (r := []) ja_M_either_22 rfl rfl rfl (by decide) ⟨rfl, by decide⟩ ?_
      exact (k2 h1 h3)
  · intro h4
    refine q_iconst (pc' := 9) ja_M_isWrong_8 rfl 1 (by decide) ?_
    refine q_goto ja_M_isWrong_9 ?_
    refine q_iret ja_M_isWrong_13 rfl (by decide) ?_
    show q_W _ _ _ _ 8 [some (.ref 146)] [.int 1] s
    refine q_if_ne (pc' := 11) ja_M_either_8 rfl (fun _ => ?_) (fun h => absurd h ((by decide : ¬ (1 : Int32) = 0)))
    exact q_vret ja_M_either_38 rfl (k3 h4)
set_option maxRecDepth 20000 in
theorem t_M_either_25 {G : jv_X} {d : Nat} {B : Option Value → jg_H → Prop} {s : jg_H} 
    (k1 : q_P G (d + 1) 144 [.ref 146] s (fun v t => q_W G (d + 1) jm_M_either B 29 [some (.ref 146)] (v.toList ++ []) t)) :
    q_W G (d + 1) jm_M_either B 25 [some (.ref 146)] [] s := by
  refine q_aload_n (pc' := 26) ja_M_either_25 rfl rfl ?_
  refine q_virt (pc' := 29) (c := 146) (as := []) (r := []) ja_M_either_26 rfl rfl rfl (by decide) ⟨rfl, by decide⟩ ?_
  exact k1
set_option maxRecDepth 20000 in
theorem t_M_either_29 {G : jv_X} {d : Nat} {B : Option Value → jg_H → Prop} {s : jg_H} 
    (k1 : jv_in ((200 * (s 146 39)) + (s 146 46)) 1800 = true)
    (k2 : ∀ s1 : jg_H, s1 = jg_up s 163 ((200 * (s 146 39)) + (s 146 46)).toNatClampNeg 2 → jv_in ((200 * (s1 146 39)) + (s1 146 46)) 1800 = true)
    (k3 : ∀ s1 : jg_H, s1 = jg_up s 163 ((200 * (s 146 39)) + (s 146 46)).toNatClampNeg 2 → ∀ s2 : jg_H, s2 = jg_up s1 164 ((200 * (s1 146 39)) + (s1 146 46)).toNatClampNeg 0 → ∀ s3 : jg_H, s3 = jg_up s2 146 46 ((s2 146 46) + 1) → q_W G (d + 1) jm_M_either B 4 [some (.ref 146)] [] s3) :
    q_W G (d + 1) jm_M_either B 29 [some (.ref 146)] [] s := by
  refine q_aload_n (pc' := 30) ja_M_either_29 rfl rfl ?_
  refine q_iconst (pc' := 31) ja_M_either_30 rfl 2 (by decide) ?_
  refine q_iconst (pc' := 32) ja_M_either_31 rfl 0 (by decide) ?_
  refine q_virt (pc' := 35) (c := 146) (as := [.int 2, .int 0]) (r := []) ja_M_either_32 rfl rfl rfl (by decide) ⟨rfl, by decide⟩ ?_
  refine q_in (M := jm_M_emit) rfl (Nat.le_of_ble_eq_true rfl) (ls := [some (.ref 146), some (.int 2), some (.int 0)]) rfl ?_
  refine q_aload_n (pc' := 1) ja_M_emit_0 rfl rfl ?_
  refine q_getf (pc' := 4) (v := .ref 163) ja_M_emit_1 rfl (by decide) ⟨rfl, by decide⟩ rfl ?_
  refine q_sipush (pc' := 7) ja_M_emit_4 rfl 200 (by decide) ?_
  refine q_aload_n (pc' := 8) ja_M_emit_7 rfl rfl ?_
  refine q_getf (pc' := 11) (v := .int (s 146 39)) ja_M_emit_8 rfl (by decide) ⟨rfl, by decide⟩ rfl ?_
  refine q_imul (pc' := 12) ja_M_emit_11 rfl ?_
  refine q_aload_n (pc' := 13) ja_M_emit_12 rfl rfl ?_
  refine q_getf (pc' := 16) (v := .int (s 146 46)) ja_M_emit_13 rfl (by decide) ⟨rfl, by decide⟩ rfl ?_
  refine q_iadd (pc' := 17) ja_M_emit_16 rfl ?_
  refine q_iload_n (pc' := 18) ja_M_emit_17 rfl rfl ?_
  refine q_iast (pc' := 19) ja_M_emit_18 rfl (by decide) (l := 1800) rfl k1 ?_
  intro s1 e1
  refine q_aload_n (pc' := 20) ja_M_emit_19 rfl rfl ?_
  refine q_getf (pc' := 23) (v := .ref 164) ja_M_emit_20 rfl (by decide) ⟨rfl, by decide⟩ rfl ?_
  refine q_sipush (pc' := 26) ja_M_emit_23 rfl 200 (by decide) ?_
  refine q_aload_n (pc' := 27) ja_M_emit_26 rfl rfl ?_
  refine q_getf (pc' := 30) (v := .int (s1 146 39)) ja_M_emit_27 rfl (by decide) ⟨rfl, by decide⟩ rfl ?_
  refine q_imul (pc' := 31) ja_M_emit_30 rfl ?_
  refine q_aload_n (pc' := 32) ja_M_emit_31 rfl rfl ?_
  refine q_getf (pc' := 35) (v := .int (s1 146 46)) ja_M_emit_32 rfl (by decide) ⟨rfl, by decide⟩ rfl ?_
  refine q_iadd (pc' := 36) ja_M_emit_35 rfl ?_
  refine q_iload_n (pc' := 37) ja_M_emit_36 rfl rfl ?_
  refine q_iast (pc' := 38) ja_M_emit_37 rfl (by decide) (l := 1800) rfl (k2 s1 e1) ?_
  intro s2 e2
  refine q_aload_n (pc' := 39) ja_M_emit_38 rfl rfl ?_
  refine q_dup (pc' := 40) ja_M_emit_39 rfl rfl ?_
  refine q_getf (pc' := 43) (v := .int (s2 146 46)) ja_M_emit_40 rfl (by decide) ⟨rfl, by decide⟩ rfl ?_
  refine q_iconst (pc' := 44) ja_M_emit_43 rfl 1 (by decide) ?_
  refine q_iadd (pc' := 45) ja_M_emit_44 rfl ?_
  refine q_putf (pc' := 48) ja_M_emit_45 rfl (by decide) rfl rfl rfl ?_
  intro s3 e3
  refine q_vret ja_M_emit_48 rfl ?_
  show q_W _ _ _ _ 35 [some (.ref 146)] [] s3
  refine q_goto ja_M_either_35 ?_
  exact (k3 s1 e1 s2 e2 s3 e3)
set_option maxRecDepth 20000 in
theorem t_M_emit {G : jv_X} {d : Nat} {B : Option Value → jg_H → Prop} {s : jg_H} (a1 : Int32) (a2 : Int32)
    (k1 : jv_in ((200 * (s 146 39)) + (s 146 46)) 1800 = true)
    (k2 : ∀ s1 : jg_H, s1 = jg_up s 163 ((200 * (s 146 39)) + (s 146 46)).toNatClampNeg a1 → jv_in ((200 * (s1 146 39)) + (s1 146 46)) 1800 = true)
    (k3 : ∀ s1 : jg_H, s1 = jg_up s 163 ((200 * (s 146 39)) + (s 146 46)).toNatClampNeg a1 → ∀ s2 : jg_H, s2 = jg_up s1 164 ((200 * (s1 146 39)) + (s1 146 46)).toNatClampNeg a2 → ∀ s3 : jg_H, s3 = jg_up s2 146 46 ((s2 146 46) + 1) → B none s3) :
    q_P G (d + 1) 147 [.ref 146, .int a1, .int a2] s B := by
  refine q_in (M := jm_M_emit) rfl (Nat.le_of_ble_eq_true rfl) (ls := [some (.ref 146), some (.int a1), some (.int a2)]) rfl ?_
  refine q_aload_n (pc' := 1) ja_M_emit_0 rfl rfl ?_
  refine q_getf (pc' := 4) (v := .ref 163) ja_M_emit_1 rfl (by decide) ⟨rfl, by decide⟩ rfl ?_
  refine q_sipush (pc' := 7) ja_M_emit_4 rfl 200 (by decide) ?_
  refine q_aload_n (pc' := 8) ja_M_emit_7 rfl rfl ?_
  refine q_getf (pc' := 11) (v := .int (s 146 39)) ja_M_emit_8 rfl (by decide) ⟨rfl, by decide⟩ rfl ?_
  refine q_imul (pc' := 12) ja_M_emit_11 rfl ?_
  refine q_aload_n (pc' := 13) ja_M_emit_12 rfl rfl ?_
  refine q_getf (pc' := 16) (v := .int (s 146 46)) ja_M_emit_13 rfl (by decide) ⟨rfl, by decide⟩ rfl ?_
  refine q_iadd (pc' := 17) ja_M_emit_16 rfl ?_
  refine q_iload_n (pc' := 18) ja_M_emit_17 rfl rfl ?_
  refine q_iast (pc' := 19) ja_M_emit_18 rfl (by decide) (l := 1800) rfl k1 ?_
  intro s1 e1
  refine q_aload_n (pc' := 20) ja_M_emit_19 rfl rfl ?_
  refine q_getf (pc' := 23) (v := .ref 164) ja_M_emit_20 rfl (by decide) ⟨rfl, by decide⟩ rfl ?_
  refine q_sipush (pc' := 26) ja_M_emit_23 rfl 200 (by decide) ?_
  refine q_aload_n (pc' := 27) ja_M_emit_26 rfl rfl ?_
  refine q_getf (pc' := 30) (v := .int (s1 146 39)) ja_M_emit_27 rfl (by decide) ⟨rfl, by decide⟩ rfl ?_
  refine q_imul (pc' := 31) ja_M_emit_30 rfl ?_
  refine q_aload_n (pc' := 32) ja_M_emit_31 rfl rfl ?_
  refine q_getf (pc' := 35) (v := .int (s1 146 46)) ja_M_emit_32 rfl (by decide) ⟨rfl, by decide⟩ rfl ?_
  refine q_iadd (pc' := 36) ja_M_emit_35 rfl ?_
  refine q_iload_n (pc' := 37) ja_M_emit_36 rfl rfl ?_
  refine q_iast (pc' := 38) ja_M_emit_37 rfl (by decide) (l := 1800) rfl (k2 s1 e1) ?_
  intro s2 e2
  refine q_aload_n (pc' := 39) ja_M_emit_38 rfl rfl ?_
  refine q_dup (pc' := 40) ja_M_emit_39 rfl rfl ?_
  refine q_getf (pc' := 43) (v := .int (s2 146 46)) ja_M_emit_40 rfl (by decide) ⟨rfl, by decide⟩ rfl ?_
  refine q_iconst (pc' := 44) ja_M_emit_43 rfl 1 (by decide) ?_
  refine q_iadd (pc' := 45) ja_M_emit_44 rfl ?_
  refine q_putf (pc' := 48) ja_M_emit_45 rfl (by decide) rfl rfl rfl ?_
  intro s3 e3
  exact q_vret ja_M_emit_48 rfl (k3 s1 e1 s2 e2 s3 e3)
set_option maxRecDepth 20000 in
theorem t_M_feed {G : jv_X} {d : Nat} {B : Option Value → jg_H → Prop} {s : jg_H} (a1 : Int32) (a2 : Int64)
    (k1 : a1 < 1 → B (some (.int (-2))) s)
    (k2 : ¬ a1 < 1 → ¬ a1 ≤ 8 → B (some (.int (-2))) s)
    (k3 : ¬ a1 < 1 → a1 ≤ 8 → ((s 146 30) + a1) ≤ 200 → q_W G (d + 1) jm_M_feed B 31 [some (.ref 146), some (.int a1), some (.long a2), none, some (.int 0)] [] s)
    (k4 : ¬ a1 < 1 → a1 ≤ 8 → ¬ ((s 146 30) + a1) ≤ 200 → B (some (.int (-4))) s) :
    q_P G (d + 2) 175 [.ref 146, .int a1, .long a2] s B := by
  refine q_in (M := jm_M_feed) rfl (Nat.le_of_ble_eq_true rfl) (ls := [some (.ref 146), some (.int a1), some (.long a2), none, none]) rfl ?_
  refine q_iload_n (pc' := 1) ja_M_feed_0 rfl rfl ?_
  refine q_iconst (pc' := 2) ja_M_feed_1 rfl 1 (by decide) ?_
  refine q_bipush (pc' := 4) ja_M_feed_2 rfl 8 (by decide) ?_
  refine q_stat (pc' := 7) (as := [.int a1, .int 1, .int 8]) (r := []) ja_M_feed_4 rfl (by decide) rfl rfl ?_
  refine q_in (M := jm_M_in) rfl (Nat.le_of_ble_eq_true rfl) (ls := [some (.int a1), some (.int 1), some (.int 8)]) rfl ?_
  refine q_iload_n (pc' := 1) ja_M_in_0 rfl rfl ?_
  refine q_iload_n (pc' := 2) ja_M_in_1 rfl rfl ?_
  refine q_ic_lt (pc' := 5) ja_M_in_2 rfl ?_ ?_
  · intro h1
    refine q_iconst (pc' := 15) ja_M_in_14 rfl 0 (by decide) ?_
    refine q_iret ja_M_in_15 rfl (by decide) ?_
    show q_W _ _ _ _ 7 [some (.ref 146), some (.int a1), some (.long a2), none, none] [.int 0] s
    refine q_if_ne (pc' := 10) ja_M_feed_7 rfl (fun h => absurd ((by decide : (0 : Int32) = 0)) h) (fun _ => ?_)
    refine q_bipush (pc' := 12) ja_M_feed_10 rfl (-2) (by decide) ?_
    exact q_iret ja_M_feed_12 rfl rfl (k1 h1)
  · intro h2
    refine q_iload_n (pc' := 6) ja_M_in_5 rfl rfl ?_
    refine q_iload_n (pc' := 7) ja_M_in_6 rfl rfl ?_
    refine q_ic_gt (pc' := 10) ja_M_in_7 rfl ?_ ?_
    · intro h3
      refine q_iconst (pc' := 15) ja_M_in_14 rfl 0 (by decide) ?_
      refine q_iret ja_M_in_15 rfl (by decide) ?_
      show q_W _ _ _ _ 7 [some (.ref 146), some (.int a1), some (.long a2), none, none] [.int 0] s
      refine q_if_ne (pc' := 10) ja_M_feed_7 rfl (fun h => absurd ((by decide : (0 : Int32) = 0)) h) (fun _ => ?_)
      refine q_bipush (pc' := 12) ja_M_feed_10 rfl (-2) (by decide) ?_
      exact q_iret ja_M_feed_12 rfl rfl (k2 h2 h3)
    · intro h4
      refine q_iconst (pc' := 11) ja_M_in_10 rfl 1 (by decide) ?_
      refine q_goto ja_M_in_11 ?_
      refine q_iret ja_M_in_15 rfl (by decide) ?_
      show q_W _ _ _ _ 7 [some (.ref 146), some (.int a1), some (.long a2), none, none] [.int 1] s
      refine q_if_ne (pc' := 10) ja_M_feed_7 rfl (fun _ => ?_) (fun h => absurd h ((by decide : ¬ (1 : Int32) = 0)))
      refine q_aload_n (pc' := 14) ja_M_feed_13 rfl rfl ?_
      refine q_getf (pc' := 17) (v := .int (s 146 30)) ja_M_feed_14 rfl (by decide) ⟨rfl, by decide⟩ rfl ?_
      refine q_iload_n (pc' := 18) ja_M_feed_17 rfl rfl ?_
      refine q_iadd (pc' := 19) ja_M_feed_18 rfl ?_
      refine q_sipush (pc' := 22) ja_M_feed_19 rfl 200 (by decide) ?_
      refine q_ic_le (pc' := 25) ja_M_feed_22 rfl ?_ ?_
      · intro h5
        refine q_iconst (pc' := 29) ja_M_feed_28 rfl 0 (by decide) ?_
        refine q_istore (pc' := 31) (ls' := [some (.ref 146), some (.int a1), some (.long a2), none, some (.int 0)]) ja_M_feed_29 rfl ⟨Nat.le_of_ble_eq_true rfl, rfl⟩ rfl ?_
        exact (k3 h2 h4 h5)
      · intro h6
        refine q_bipush (pc' := 27) ja_M_feed_25 rfl (-4) (by decide) ?_
        exact q_iret ja_M_feed_27 rfl rfl (k4 h2 h4 h6)
set_option maxRecDepth 20000 in
theorem t_M_feed_31 {G : jv_X} {d : Nat} {B : Option Value → jg_H → Prop} {s : jg_H} (x1 : Int32) (x2 : Int64) (x4 : Int32)
    (k1 : ¬ x4 < x1 → B (some (.int (s 146 30))) s)
    (k2 : x4 < x1 → jv_in (s 146 30) 200 = true)
    (k3 : x4 < x1 → ∀ s1 : jg_H, s1 = jg_up s 162 (s 146 30).toNatClampNeg ((((x2 >>> (((8 * x4) : Int32).toInt64 &&& 63)) &&& (255))).toInt32) → ∀ s2 : jg_H, s2 = jg_up s1 146 30 ((s1 146 30) + 1) → q_W G (d + 1) jm_M_feed B 31 [some (.ref 146), some (.int x1), some (.long x2), none, some (.int (x4 + 1))] [] s2) :
    q_W G (d + 1) jm_M_feed B 31 [some (.ref 146), some (.int x1), some (.long x2), none, some (.int x4)] [] s := by
  refine q_iload (pc' := 33) ja_M_feed_31 rfl rfl ?_
  refine q_iload_n (pc' := 34) ja_M_feed_33 rfl rfl ?_
  refine q_ic_ge (pc' := 37) ja_M_feed_34 rfl ?_ ?_
  · intro h1
    refine q_aload_n (pc' := 75) ja_M_feed_74 rfl rfl ?_
    refine q_getf (pc' := 78) (v := .int (s 146 30)) ja_M_feed_75 rfl (by decide) ⟨rfl, by decide⟩ rfl ?_
    exact q_iret ja_M_feed_78 rfl rfl (k1 h1)
  · intro h2
    refine q_aload_n (pc' := 38) ja_M_feed_37 rfl rfl ?_
    refine q_getf (pc' := 41) (v := .ref 162) ja_M_feed_38 rfl (by decide) ⟨rfl, by decide⟩ rfl ?_
    refine q_aload_n (pc' := 42) ja_M_feed_41 rfl rfl ?_
    refine q_getf (pc' := 45) (v := .int (s 146 30)) ja_M_feed_42 rfl (by decide) ⟨rfl, by decide⟩ rfl ?_
    refine q_lload_n (pc' := 46) ja_M_feed_45 rfl rfl ?_
    refine q_bipush (pc' := 48) ja_M_feed_46 rfl 8 (by decide) ?_
    refine q_iload (pc' := 50) ja_M_feed_48 rfl rfl ?_
    refine q_imul (pc' := 51) ja_M_feed_50 rfl ?_
    refine q_lshr (pc' := 52) ja_M_feed_51 rfl ?_
    refine q_ldc2 (pc' := 55) ja_M_feed_52 rfl (255) (by decide) ?_
    refine q_land (pc' := 56) ja_M_feed_55 rfl ?_
    refine q_l2i (pc' := 57) ja_M_feed_56 rfl ?_
    refine q_iast (pc' := 58) ja_M_feed_57 rfl (by decide) (l := 200) rfl (k2 h2) ?_
    intro s1 e1
    refine q_aload_n (pc' := 59) ja_M_feed_58 rfl rfl ?_
    refine q_dup (pc' := 60) ja_M_feed_59 rfl rfl ?_
    refine q_getf (pc' := 63) (v := .int (s1 146 30)) ja_M_feed_60 rfl (by decide) ⟨rfl, by decide⟩ rfl ?_
    refine q_iconst (pc' := 64) ja_M_feed_63 rfl 1 (by decide) ?_
    refine q_iadd (pc' := 65) ja_M_feed_64 rfl ?_
    refine q_putf (pc' := 68) ja_M_feed_65 rfl (by decide) rfl rfl rfl ?_
    intro s2 e2
    refine q_iinc (pc' := 71) (ls' := [some (.ref 146), some (.int x1), some (.long x2), none, some (.int (x4 + 1))]) ja_M_feed_68 rfl rfl (x4 + 1) rfl ⟨Nat.le_of_ble_eq_true rfl, rfl⟩ rfl ?_
    refine q_goto ja_M_feed_71 ?_
    exact (k3 h2 s1 e1 s2 e2)
set_option maxRecDepth 20000 in
theorem t_M_follows {G : jv_X} {d : Nat} {B : Option Value → jg_H → Prop} {s : jg_H} (a1 : Int32) (a2 : Int32) (a3 : Int32) (a4 : Int32)
    (k1 : jv_in a1 13 = true)
    (k2 : (s 157 a1.toNatClampNeg) < 1 → B none s)
    (k3 : ¬ (s 157 a1.toNatClampNeg) < 1 → ¬ (s 157 a1.toNatClampNeg) ≤ 3 → B none s)
    (k4 : ¬ (s 157 a1.toNatClampNeg) < 1 → (s 157 a1.toNatClampNeg) ≤ 3 → jv_in a1 13 = true)
    (k5 : ¬ (s 157 a1.toNatClampNeg) < 1 → (s 157 a1.toNatClampNeg) ≤ 3 → ¬ (s 161 a1.toNatClampNeg) = 0 → B none s)
    (k6 : ¬ (s 157 a1.toNatClampNeg) < 1 → (s 157 a1.toNatClampNeg) ≤ 3 → (s 161 a1.toNatClampNeg) = 0 → jv_in a1 13 = true)
    (k7 : ¬ (s 157 a1.toNatClampNeg) < 1 → (s 157 a1.toNatClampNeg) ≤ 3 → (s 161 a1.toNatClampNeg) = 0 → (s 159 a1.toNatClampNeg) = (-1) → B none s)
    (k8 : ¬ (s 157 a1.toNatClampNeg) < 1 → (s 157 a1.toNatClampNeg) ≤ 3 → (s 161 a1.toNatClampNeg) = 0 → ¬ (s 159 a1.toNatClampNeg) = (-1) → a2 = 3 → B none s)
    (k9 : ¬ (s 157 a1.toNatClampNeg) < 1 → (s 157 a1.toNatClampNeg) ≤ 3 → (s 161 a1.toNatClampNeg) = 0 → ¬ (s 159 a1.toNatClampNeg) = (-1) → ¬ a2 = 3 → a4 = 0 → ¬ a2 = 1 → jv_in a1 13 = true)
    (k10 : ¬ (s 157 a1.toNatClampNeg) < 1 → (s 157 a1.toNatClampNeg) ≤ 3 → (s 161 a1.toNatClampNeg) = 0 → ¬ (s 159 a1.toNatClampNeg) = (-1) → ¬ a2 = 3 → a4 = 0 → ¬ a2 = 1 → jv_in a1 13 = true)
    (k11 : ¬ (s 157 a1.toNatClampNeg) < 1 → (s 157 a1.toNatClampNeg) ≤ 3 → (s 161 a1.toNatClampNeg) = 0 → ¬ (s 159 a1.toNatClampNeg) = (-1) → ¬ a2 = 3 → a4 = 0 → ¬ a2 = 1 → (s 159 a1.toNatClampNeg) < a3 → jv_in a1 13 = true)
    (k12 : ¬ (s 157 a1.toNatClampNeg) < 1 → (s 157 a1.toNatClampNeg) ≤ 3 → (s 161 a1.toNatClampNeg) = 0 → ¬ (s 159 a1.toNatClampNeg) = (-1) → ¬ a2 = 3 → a4 = 0 → ¬ a2 = 1 → (s 159 a1.toNatClampNeg) < a3 → ∀ s1 : jg_H, s1 = jg_up s 159 a1.toNatClampNeg ((s 159 a1.toNatClampNeg) + 0) → B none s1)
    (k13 : ¬ (s 157 a1.toNatClampNeg) < 1 → (s 157 a1.toNatClampNeg) ≤ 3 → (s 161 a1.toNatClampNeg) = 0 → ¬ (s 159 a1.toNatClampNeg) = (-1) → ¬ a2 = 3 → a4 = 0 → ¬ a2 = 1 → ¬ (s 159 a1.toNatClampNeg) < a3 → jv_in a1 13 = true)
    (k14 : ¬ (s 157 a1.toNatClampNeg) < 1 → (s 157 a1.toNatClampNeg) ≤ 3 → (s 161 a1.toNatClampNeg) = 0 → ¬ (s 159 a1.toNatClampNeg) = (-1) → ¬ a2 = 3 → a4 = 0 → ¬ a2 = 1 → ¬ (s 159 a1.toNatClampNeg) < a3 → ∀ s2 : jg_H, s2 = jg_up s 159 a1.toNatClampNeg ((s 159 a1.toNatClampNeg) + 1) → B none s2)
    (k15 : ¬ (s 157 a1.toNatClampNeg) < 1 → (s 157 a1.toNatClampNeg) ≤ 3 → (s 161 a1.toNatClampNeg) = 0 → ¬ (s 159 a1.toNatClampNeg) = (-1) → ¬ a2 = 3 → a4 = 0 → a2 = 1 → jv_in a1 13 = true)
    (k16 : ¬ (s 157 a1.toNatClampNeg) < 1 → (s 157 a1.toNatClampNeg) ≤ 3 → (s 161 a1.toNatClampNeg) = 0 → ¬ (s 159 a1.toNatClampNeg) = (-1) → ¬ a2 = 3 → a4 = 0 → a2 = 1 → ¬ (s 159 a1.toNatClampNeg) = a3 → jv_in a1 13 = true)
    (k17 : ¬ (s 157 a1.toNatClampNeg) < 1 → (s 157 a1.toNatClampNeg) ≤ 3 → (s 161 a1.toNatClampNeg) = 0 → ¬ (s 159 a1.toNatClampNeg) = (-1) → ¬ a2 = 3 → a4 = 0 → a2 = 1 → ¬ (s 159 a1.toNatClampNeg) = a3 → (s 159 a1.toNatClampNeg) ≤ a3 → jv_in a1 13 = true)
    (k18 : ¬ (s 157 a1.toNatClampNeg) < 1 → (s 157 a1.toNatClampNeg) ≤ 3 → (s 161 a1.toNatClampNeg) = 0 → ¬ (s 159 a1.toNatClampNeg) = (-1) → ¬ a2 = 3 → a4 = 0 → a2 = 1 → ¬ (s 159 a1.toNatClampNeg) = a3 → (s 159 a1.toNatClampNeg) ≤ a3 → jv_in a1 13 = true)
    (k19 : ¬ (s 157 a1.toNatClampNeg) < 1 → (s 157 a1.toNatClampNeg) ≤ 3 → (s 161 a1.toNatClampNeg) = 0 → ¬ (s 159 a1.toNatClampNeg) = (-1) → ¬ a2 = 3 → a4 = 0 → a2 = 1 → ¬ (s 159 a1.toNatClampNeg) = a3 → (s 159 a1.toNatClampNeg) ≤ a3 → ∀ s3 : jg_H, s3 = jg_up s 159 a1.toNatClampNeg (s 159 a1.toNatClampNeg) → B none s3)
    (k20 : ¬ (s 157 a1.toNatClampNeg) < 1 → (s 157 a1.toNatClampNeg) ≤ 3 → (s 161 a1.toNatClampNeg) = 0 → ¬ (s 159 a1.toNatClampNeg) = (-1) → ¬ a2 = 3 → a4 = 0 → a2 = 1 → ¬ (s 159 a1.toNatClampNeg) = a3 → ¬ (s 159 a1.toNatClampNeg) ≤ a3 → jv_in a1 13 = true)
    (k21 : ¬ (s 157 a1.toNatClampNeg) < 1 → (s 157 a1.toNatClampNeg) ≤ 3 → (s 161 a1.toNatClampNeg) = 0 → ¬ (s 159 a1.toNatClampNeg) = (-1) → ¬ a2 = 3 → a4 = 0 → a2 = 1 → ¬ (s 159 a1.toNatClampNeg) = a3 → ¬ (s 159 a1.toNatClampNeg) ≤ a3 → jv_in a1 13 = true)
    (k22 : ¬ (s 157 a1.toNatClampNeg) < 1 → (s 157 a1.toNatClampNeg) ≤ 3 → (s 161 a1.toNatClampNeg) = 0 → ¬ (s 159 a1.toNatClampNeg) = (-1) → ¬ a2 = 3 → a4 = 0 → a2 = 1 → ¬ (s 159 a1.toNatClampNeg) = a3 → ¬ (s 159 a1.toNatClampNeg) ≤ a3 → ∀ s4 : jg_H, s4 = jg_up s 159 a1.toNatClampNeg ((s 159 a1.toNatClampNeg) - 1) → B none s4)
    (k23 : ¬ (s 157 a1.toNatClampNeg) < 1 → (s 157 a1.toNatClampNeg) ≤ 3 → (s 161 a1.toNatClampNeg) = 0 → ¬ (s 159 a1.toNatClampNeg) = (-1) → ¬ a2 = 3 → a4 = 0 → a2 = 1 → (s 159 a1.toNatClampNeg) = a3 → jv_in a1 13 = true)
    (k24 : ¬ (s 157 a1.toNatClampNeg) < 1 → (s 157 a1.toNatClampNeg) ≤ 3 → (s 161 a1.toNatClampNeg) = 0 → ¬ (s 159 a1.toNatClampNeg) = (-1) → ¬ a2 = 3 → a4 = 0 → a2 = 1 → (s 159 a1.toNatClampNeg) = a3 → ∀ s5 : jg_H, s5 = jg_up s 159 a1.toNatClampNeg (-1) → B none s5)
    (k25 : ¬ (s 157 a1.toNatClampNeg) < 1 → (s 157 a1.toNatClampNeg) ≤ 3 → (s 161 a1.toNatClampNeg) = 0 → ¬ (s 159 a1.toNatClampNeg) = (-1) → ¬ a2 = 3 → ¬ a4 = 0 → B none s) :
    q_P G (d + 2) 199 [.ref 146, .int a1, .int a2, .int a3, .int a4] s B := by
  refine q_in (M := jm_M_follows) rfl (Nat.le_of_ble_eq_true rfl) (ls := [some (.ref 146), some (.int a1), some (.int a2), some (.int a3), some (.int a4), none]) rfl ?_
  refine q_aload_n (pc' := 1) ja_M_follows_0 rfl rfl ?_
  refine q_getf (pc' := 4) (v := .ref 157) ja_M_follows_1 rfl (by decide) ⟨rfl, by decide⟩ rfl ?_
  refine q_iload_n (pc' := 5) ja_M_follows_4 rfl rfl ?_
  refine q_iald (pc' := 6) (v := .int (s 157 a1.toNatClampNeg)) ja_M_follows_5 rfl (by decide) (l := 13) rfl k1 rfl ?_
  refine q_iconst (pc' := 7) ja_M_follows_6 rfl 1 (by decide) ?_
  refine q_iconst (pc' := 8) ja_M_follows_7 rfl 3 (by decide) ?_
  refine q_stat (pc' := 11) (as := [.int (s 157 a1.toNatClampNeg), .int 1, .int 3]) (r := []) ja_M_follows_8 rfl (by decide) rfl rfl ?_
  refine q_in (M := jm_M_in) rfl (Nat.le_of_ble_eq_true rfl) (ls := [some (.int (s 157 a1.toNatClampNeg)), some (.int 1), some (.int 3)]) rfl ?_
  refine q_iload_n (pc' := 1) ja_M_in_0 rfl rfl ?_
  refine q_iload_n (pc' := 2) ja_M_in_1 rfl rfl ?_
  refine q_ic_lt (pc' := 5) ja_M_in_2 rfl ?_ ?_
  · intro h1
    refine q_iconst (pc' := 15) ja_M_in_14 rfl 0 (by decide) ?_
    refine q_iret ja_M_in_15 rfl (by decide) ?_
    show q_W _ _ _ _ 11 [some (.ref 146), some (.int a1), some (.int a2), some (.int a3), some (.int a4), none] [.int 0] s
    refine q_if_eq (pc' := 14) ja_M_follows_11 rfl (fun _ => ?_) (fun h => absurd ((by decide : (0 : Int32) = 0)) h)
    refine q_iconst (pc' := 38) ja_M_follows_37 rfl 0 (by decide) ?_
    refine q_istore (pc' := 40) (ls' := [some (.ref 146), some (.int a1), some (.int a2), some (.int a3), some (.int a4), some (.int 0)]) ja_M_follows_38 rfl ⟨Nat.le_of_ble_eq_true rfl, rfl⟩ rfl ?_
    refine q_iload (pc' := 42) ja_M_follows_40 rfl rfl ?_
    refine q_if_eq (pc' := 45) ja_M_follows_42 rfl (fun _ => ?_) (fun h => absurd ((by decide : (0 : Int32) = 0)) h)
    exact q_vret ja_M_follows_55 rfl (k2 h1)
  · intro h2
    refine q_iload_n (pc' := 6) ja_M_in_5 rfl rfl ?_
    refine q_iload_n (pc' := 7) ja_M_in_6 rfl rfl ?_
    refine q_ic_gt (pc' := 10) ja_M_in_7 rfl ?_ ?_
    · intro h3
      refine q_iconst (pc' := 15) ja_M_in_14 rfl 0 (by decide) ?_
      refine q_iret ja_M_in_15 rfl (by decide) ?_
      show q_W _ _ _ _ 11 [some (.ref 146), some (.int a1), some (.int a2), some (.int a3), some (.int a4), none] [.int 0] s
      refine q_if_eq (pc' := 14) ja_M_follows_11 rfl (fun _ => ?_) (fun h => absurd ((by decide : (0 : Int32) = 0)) h)
      refine q_iconst (pc' := 38) ja_M_follows_37 rfl 0 (by decide) ?_
      refine q_istore (pc' := 40) (ls' := [some (.ref 146), some (.int a1), some (.int a2), some (.int a3), some (.int a4), some (.int 0)]) ja_M_follows_38 rfl ⟨Nat.le_of_ble_eq_true rfl, rfl⟩ rfl ?_
      refine q_iload (pc' := 42) ja_M_follows_40 rfl rfl ?_
      refine q_if_eq (pc' := 45) ja_M_follows_42 rfl (fun _ => ?_) (fun h => absurd ((by decide : (0 : Int32) = 0)) h)
      exact q_vret ja_M_follows_55 rfl (k3 h2 h3)
    · intro h4
      refine q_iconst (pc' := 11) ja_M_in_10 rfl 1 (by decide) ?_
      refine q_goto ja_M_in_11 ?_
      refine q_iret ja_M_in_15 rfl (by decide) ?_
      show q_W _ _ _ _ 11 [some (.ref 146), some (.int a1), some (.int a2), some (.int a3), some (.int a4), none] [.int 1] s
      refine q_if_eq (pc' := 14) ja_M_follows_11 rfl (fun h => absurd h ((by decide : ¬ (1 : Int32) = 0))) (fun _ => ?_)
      refine q_aload_n (pc' := 15) ja_M_follows_14 rfl rfl ?_
      refine q_getf (pc' := 18) (v := .ref 161) ja_M_follows_15 rfl (by decide) ⟨rfl, by decide⟩ rfl ?_
      refine q_iload_n (pc' := 19) ja_M_follows_18 rfl rfl ?_
      refine q_bald (pc' := 20) (v := .int (s 161 a1.toNatClampNeg)) ja_M_follows_19 rfl (by decide) (l := 13) rfl (k4 h2 h4) rfl ?_
      refine q_if_ne (pc' := 23) ja_M_follows_20 rfl ?_ ?_
      · intro h5
        refine q_iconst (pc' := 38) ja_M_follows_37 rfl 0 (by decide) ?_
        refine q_istore (pc' := 40) (ls' := [some (.ref 146), some (.int a1), some (.int a2), some (.int a3), some (.int a4), some (.int 0)]) ja_M_follows_38 rfl ⟨Nat.le_of_ble_eq_true rfl, rfl⟩ rfl ?_
        refine q_iload (pc' := 42) ja_M_follows_40 rfl rfl ?_
        refine q_if_eq (pc' := 45) ja_M_follows_42 rfl (fun _ => ?_) (fun h => absurd ((by decide : (0 : Int32) = 0)) h)
        exact q_vret ja_M_follows_55 rfl (k5 h2 h4 h5)
      · intro h6
        refine q_aload_n (pc' := 24) ja_M_follows_23 rfl rfl ?_
        refine q_getf (pc' := 27) (v := .ref 159) ja_M_follows_24 rfl (by decide) ⟨rfl, by decide⟩ rfl ?_
        refine q_iload_n (pc' := 28) ja_M_follows_27 rfl rfl ?_
        refine q_iald (pc' := 29) (v := .int (s 159 a1.toNatClampNeg)) ja_M_follows_28 rfl (by decide) (l := 13) rfl (k6 h2 h4 h6) rfl ?_
        refine q_iconst (pc' := 30) ja_M_follows_29 rfl (-1) (by decide) ?_
        refine q_ic_eq (pc' := 33) ja_M_follows_30 rfl ?_ ?_
        · intro h7
          refine q_iconst (pc' := 38) ja_M_follows_37 rfl 0 (by decide) ?_
          refine q_istore (pc' := 40) (ls' := [some (.ref 146), some (.int a1), some (.int a2), some (.int a3), some (.int a4), some (.int 0)]) ja_M_follows_38 rfl ⟨Nat.le_of_ble_eq_true rfl, rfl⟩ rfl ?_
          refine q_iload (pc' := 42) ja_M_follows_40 rfl rfl ?_
          refine q_if_eq (pc' := 45) ja_M_follows_42 rfl (fun _ => ?_) (fun h => absurd ((by decide : (0 : Int32) = 0)) h)
          exact q_vret ja_M_follows_55 rfl (k7 h2 h4 h6 h7)
        · intro h8
          refine q_iconst (pc' := 34) ja_M_follows_33 rfl 1 (by decide) ?_
          refine q_goto ja_M_follows_34 ?_
          refine q_istore (pc' := 40) (ls' := [some (.ref 146), some (.int a1), some (.int a2), some (.int a3), some (.int a4), some (.int 1)]) ja_M_follows_38 rfl ⟨Nat.le_of_ble_eq_true rfl, rfl⟩ rfl ?_
          refine q_iload (pc' := 42) ja_M_follows_40 rfl rfl ?_
          refine q_if_eq (pc' := 45) ja_M_follows_42 rfl (fun h => absurd h ((by decide : ¬ (1 : Int32) = 0))) (fun _ => ?_)
          refine q_iload_n (pc' := 46) ja_M_follows_45 rfl rfl ?_
          refine q_iconst (pc' := 47) ja_M_follows_46 rfl 3 (by decide) ?_
          refine q_ic_eq (pc' := 50) ja_M_follows_47 rfl ?_ ?_
          · intro h9
            exact q_vret ja_M_follows_55 rfl (k8 h2 h4 h6 h8 h9)
          · intro h10
            refine q_iload (pc' := 52) ja_M_follows_50 rfl rfl ?_
            refine q_if_eq (pc' := 55) ja_M_follows_52 rfl ?_ ?_
            · intro h11
              refine q_iload_n (pc' := 57) ja_M_follows_56 rfl rfl ?_
              refine q_iconst (pc' := 58) ja_M_follows_57 rfl 1 (by decide) ?_
              refine q_ic_ne (pc' := 61) ja_M_follows_58 rfl ?_ ?_
              · intro h12
                refine q_aload_n (pc' := 112) ja_M_follows_111 rfl rfl ?_
                refine q_getf (pc' := 115) (v := .ref 159) ja_M_follows_112 rfl (by decide) ⟨rfl, by decide⟩ rfl ?_
                refine q_iload_n (pc' := 116) ja_M_follows_115 rfl rfl ?_
                refine q_dup2 (pc' := 117) ja_M_follows_116 rfl ⟨rfl, rfl⟩ ?_
                refine q_iald (pc' := 118) (v := .int (s 159 a1.toNatClampNeg)) ja_M_follows_117 rfl (by decide) (l := 13) rfl (k9 h2 h4 h6 h8 h10 h11 h12) rfl ?_
                refine q_aload_n (pc' := 119) ja_M_follows_118 rfl rfl ?_
                refine q_getf (pc' := 122) (v := .ref 159) ja_M_follows_119 rfl (by decide) ⟨rfl, by decide⟩ rfl ?_
                refine q_iload_n (pc' := 123) ja_M_follows_122 rfl rfl ?_
                refine q_iald (pc' := 124) (v := .int (s 159 a1.toNatClampNeg)) ja_M_follows_123 rfl (by decide) (l := 13) rfl (k10 h2 h4 h6 h8 h10 h11 h12) rfl ?_
                refine q_iload_n (pc' := 125) ja_M_follows_124 rfl rfl ?_
                refine q_ic_lt (pc' := 128) ja_M_follows_125 rfl ?_ ?_
                · intro h13
                  refine q_iconst (pc' := 133) ja_M_follows_132 rfl 0 (by decide) ?_
                  refine q_iadd (pc' := 134) ja_M_follows_133 rfl ?_
                  refine q_iast (pc' := 135) ja_M_follows_134 rfl (by decide) (l := 13) rfl (k11 h2 h4 h6 h8 h10 h11 h12 h13) ?_
                  intro s1 e1
                  exact q_vret ja_M_follows_135 rfl (k12 h2 h4 h6 h8 h10 h11 h12 h13 s1 e1)
                · intro h14
                  refine q_iconst (pc' := 129) ja_M_follows_128 rfl 1 (by decide) ?_
                  refine q_goto ja_M_follows_129 ?_
                  refine q_iadd (pc' := 134) ja_M_follows_133 rfl ?_
                  refine q_iast (pc' := 135) ja_M_follows_134 rfl (by decide) (l := 13) rfl (k13 h2 h4 h6 h8 h10 h11 h12 h14) ?_
                  intro s2 e2
                  exact q_vret ja_M_follows_135 rfl (k14 h2 h4 h6 h8 h10 h11 h12 h14 s2 e2)
              · intro h15
                refine q_aload_n (pc' := 62) ja_M_follows_61 rfl rfl ?_
                refine q_getf (pc' := 65) (v := .ref 159) ja_M_follows_62 rfl (by decide) ⟨rfl, by decide⟩ rfl ?_
                refine q_iload_n (pc' := 66) ja_M_follows_65 rfl rfl ?_
                refine q_aload_n (pc' := 67) ja_M_follows_66 rfl rfl ?_
                refine q_getf (pc' := 70) (v := .ref 159) ja_M_follows_67 rfl (by decide) ⟨rfl, by decide⟩ rfl ?_
                refine q_iload_n (pc' := 71) ja_M_follows_70 rfl rfl ?_
                refine q_iald (pc' := 72) (v := .int (s 159 a1.toNatClampNeg)) ja_M_follows_71 rfl (by decide) (l := 13) rfl (k15 h2 h4 h6 h8 h10 h11 h15) rfl ?_
                refine q_iload_n (pc' := 73) ja_M_follows_72 rfl rfl ?_
                refine q_ic_ne (pc' := 76) ja_M_follows_73 rfl ?_ ?_
                · intro h16
                  refine q_aload_n (pc' := 81) ja_M_follows_80 rfl rfl ?_
                  refine q_getf (pc' := 84) (v := .ref 159) ja_M_follows_81 rfl (by decide) ⟨rfl, by decide⟩ rfl ?_
                  refine q_iload_n (pc' := 85) ja_M_follows_84 rfl rfl ?_
                  refine q_iald (pc' := 86) (v := .int (s 159 a1.toNatClampNeg)) ja_M_follows_85 rfl (by decide) (l := 13) rfl (k16 h2 h4 h6 h8 h10 h11 h15 h16) rfl ?_
                  refine q_iload_n (pc' := 87) ja_M_follows_86 rfl rfl ?_
                  refine q_ic_le (pc' := 90) ja_M_follows_87 rfl ?_ ?_
                  · intro h17
                    refine q_aload_n (pc' := 102) ja_M_follows_101 rfl rfl ?_
                    refine q_getf (pc' := 105) (v := .ref 159) ja_M_follows_102 rfl (by decide) ⟨rfl, by decide⟩ rfl ?_
                    refine q_iload_n (pc' := 106) ja_M_follows_105 rfl rfl ?_
                    refine q_iald (pc' := 107) (v := .int (s 159 a1.toNatClampNeg)) ja_M_follows_106 rfl (by decide) (l := 13) rfl (k17 h2 h4 h6 h8 h10 h11 h15 h16 h17) rfl ?_
                    refine q_iast (pc' := 108) ja_M_follows_107 rfl (by decide) (l := 13) rfl (k18 h2 h4 h6 h8 h10 h11 h15 h16 h17) ?_
                    intro s3 e3
                    refine q_goto ja_M_follows_108 ?_
                    exact q_vret ja_M_follows_135 rfl (k19 h2 h4 h6 h8 h10 h11 h15 h16 h17 s3 e3)
                  · intro h18
                    refine q_aload_n (pc' := 91) ja_M_follows_90 rfl rfl ?_
                    refine q_getf (pc' := 94) (v := .ref 159) ja_M_follows_91 rfl (by decide) ⟨rfl, by decide⟩ rfl ?_
                    refine q_iload_n (pc' := 95) ja_M_follows_94 rfl rfl ?_
                    refine q_iald (pc' := 96) (v := .int (s 159 a1.toNatClampNeg)) ja_M_follows_95 rfl (by decide) (l := 13) rfl (k20 h2 h4 h6 h8 h10 h11 h15 h16 h18) rfl ?_
                    refine q_iconst (pc' := 97) ja_M_follows_96 rfl 1 (by decide) ?_
                    refine q_isub (pc' := 98) ja_M_follows_97 rfl ?_
                    refine q_goto ja_M_follows_98 ?_
                    refine q_iast (pc' := 108) ja_M_follows_107 rfl (by decide) (l := 13) rfl (k21 h2 h4 h6 h8 h10 h11 h15 h16 h18) ?_
                    intro s4 e4
                    refine q_goto ja_M_follows_108 ?_
                    exact q_vret ja_M_follows_135 rfl (k22 h2 h4 h6 h8 h10 h11 h15 h16 h18 s4 e4)
                · intro h19
                  refine q_iconst (pc' := 77) ja_M_follows_76 rfl (-1) (by decide) ?_
                  refine q_goto ja_M_follows_77 ?_
                  refine q_iast (pc' := 108) ja_M_follows_107 rfl (by decide) (l := 13) rfl (k23 h2 h4 h6 h8 h10 h11 h15 h19) ?_
                  intro s5 e5
                  refine q_goto ja_M_follows_108 ?_
                  exact q_vret ja_M_follows_135 rfl (k24 h2 h4 h6 h8 h10 h11 h15 h19 s5 e5)
            · intro h20
              exact q_vret ja_M_follows_55 rfl (k25 h2 h4 h6 h8 h10 h20)
set_option maxRecDepth 20000 in
theorem t_M_foresee {G : jv_X} {d : Nat} {B : Option Value → jg_H → Prop} {s : jg_H} (a1 : Int32) (a2 : Int32)
    (k1 : a2 < 0 → B (some (.long (-4611686018427387904))) s)
    (k2 : ¬ a2 < 0 → ¬ a2 ≤ ((s 146 0) - 1) → B (some (.long (-4611686018427387904))) s)
    (k3 : ¬ a2 < 0 → a2 ≤ ((s 146 0) - 1) → (s 146 13) = (-1) → B (some (.long (-4611686018427387904))) s)
    (k4 : ¬ a2 < 0 → a2 ≤ ((s 146 0) - 1) → ¬ (s 146 13) = (-1) → q_P G (d + 2) 207 [.ref 146, .int a1] s (fun v t => q_W G (d + 2) jm_M_foresee B 21 [some (.ref 146), some (.int a1), some (.int a2)] (v.toList ++ []) t)) :
    q_P G (d + 3) 206 [.ref 146, .int a1, .int a2] s B := by
  refine q_in (M := jm_M_foresee) rfl (Nat.le_of_ble_eq_true rfl) (ls := [some (.ref 146), some (.int a1), some (.int a2)]) rfl ?_
  refine q_aload_n (pc' := 1) ja_M_foresee_0 rfl rfl ?_
  refine q_iload_n (pc' := 2) ja_M_foresee_1 rfl rfl ?_
  refine q_virt (pc' := 5) (c := 146) (as := [.int a2]) (r := []) ja_M_foresee_2 rfl rfl rfl (by decide) ⟨rfl, by decide⟩ ?_
  refine q_in (M := jm_M_isMember) rfl (Nat.le_of_ble_eq_true rfl) (ls := [some (.ref 146), some (.int a2)]) rfl ?_
  refine q_iload_n (pc' := 1) ja_M_isMember_0 rfl rfl ?_
  refine q_iconst (pc' := 2) ja_M_isMember_1 rfl 0 (by decide) ?_
  refine q_aload_n (pc' := 3) ja_M_isMember_2 rfl rfl ?_
  refine q_getf (pc' := 6) (v := .int (s 146 0)) ja_M_isMember_3 rfl (by decide) ⟨rfl, by decide⟩ rfl ?_
  refine q_iconst (pc' := 7) ja_M_isMember_6 rfl 1 (by decide) ?_
  refine q_isub (pc' := 8) ja_M_isMember_7 rfl ?_
  refine q_stat (pc' := 11) (as := [.int a2, .int 0, .int ((s 146 0) - 1)]) (r := []) ja_M_isMember_8 rfl (by decide) rfl rfl ?_
  refine q_in (M := jm_M_in) rfl (Nat.le_of_ble_eq_true rfl) (ls := [some (.int a2), some (.int 0), some (.int ((s 146 0) - 1))]) rfl ?_
  refine q_iload_n (pc' := 1) ja_M_in_0 rfl rfl ?_
  refine q_iload_n (pc' := 2) ja_M_in_1 rfl rfl ?_
  refine q_ic_lt (pc' := 5) ja_M_in_2 rfl ?_ ?_
  · intro h1
    refine q_iconst (pc' := 15) ja_M_in_14 rfl 0 (by decide) ?_
    refine q_iret ja_M_in_15 rfl (by decide) ?_
    show q_W _ _ _ _ 11 [some (.ref 146), some (.int a2)] [.int 0] s
    refine q_iret ja_M_isMember_11 rfl (by decide) ?_
    show q_W _ _ _ _ 5 [some (.ref 146), some (.int a1), some (.int a2)] [.int 0] s
    refine q_if_eq (pc' := 8) ja_M_foresee_5 rfl (fun _ => ?_) (fun h => absurd ((by decide : (0 : Int32) = 0)) h)
    refine q_ldc2 (pc' := 27) ja_M_foresee_24 rfl (-4611686018427387904) (by decide) ?_
    exact q_lret ja_M_foresee_27 rfl (k1 h1)
  · intro h2
    refine q_iload_n (pc' := 6) ja_M_in_5 rfl rfl ?_
    refine q_iload_n (pc' := 7) ja_M_in_6 rfl rfl ?_
    refine q_ic_gt (pc' := 10) ja_M_in_7 rfl ?_ ?_
    · intro h3
      refine q_iconst (pc' := 15) ja_M_in_14 rfl 0 (by decide) ?_
      refine q_iret ja_M_in_15 rfl (by decide) ?_
      show q_W _ _ _ _ 11 [some (.ref 146), some (.int a2)] [.int 0] s
      refine q_iret ja_M_isMember_11 rfl (by decide) ?_
      show q_W _ _ _ _ 5 [some (.ref 146), some (.int a1), some (.int a2)] [.int 0] s
      refine q_if_eq (pc' := 8) ja_M_foresee_5 rfl (fun _ => ?_) (fun h => absurd ((by decide : (0 : Int32) = 0)) h)
      refine q_ldc2 (pc' := 27) ja_M_foresee_24 rfl (-4611686018427387904) (by decide) ?_
      exact q_lret ja_M_foresee_27 rfl (k2 h2 h3)
    · intro h4
      refine q_iconst (pc' := 11) ja_M_in_10 rfl 1 (by decide) ?_
      refine q_goto ja_M_in_11 ?_
      refine q_iret ja_M_in_15 rfl (by decide) ?_
      show q_W _ _ _ _ 11 [some (.ref 146), some (.int a2)] [.int 1] s
      refine q_iret ja_M_isMember_11 rfl (by decide) ?_
      show q_W _ _ _ _ 5 [some (.ref 146), some (.int a1), some (.int a2)] [.int 1] s
      refine q_if_eq (pc' := 8) ja_M_foresee_5 rfl (fun h => absurd h ((by decide : ¬ (1 : Int32) = 0))) (fun _ => ?_)
      refine q_aload_n (pc' := 9) ja_M_foresee_8 rfl rfl ?_
      refine q_getf (pc' := 12) (v := .int (s 146 13)) ja_M_foresee_9 rfl (by decide) ⟨rfl, by decide⟩ rfl ?_
      refine q_iconst (pc' := 13) ja_M_foresee_12 rfl (-1) (by decide) ?_
      refine q_ic_eq (pc' := 16) ja_M_foresee_13 rfl ?_ ?_
      · intro h5
        refine q_ldc2 (pc' := 27) ja_M_foresee_24 rfl (-4611686018427387904) (by decide) ?_
        exact q_lret ja_M_foresee_27 rfl (k3 h2 h4 h5)
      · intro h6
        refine q_aload_n (pc' := 17) ja_M_foresee_16 rfl rfl ?_
        refine q_iload_n (pc' := 18) ja_M_foresee_17 rfl rfl ?_
        refine q_virt (pc' := 21) (c := 146) (as := [.int a1]) (r := []) ja_M_foresee_18 rfl rfl rfl (by decide) ⟨rfl, by decide⟩ ?_
        exact (k4 h2 h4 h6)
set_option maxRecDepth 20000 in
theorem t_M_foresee_21 {G : jv_X} {d : Nat} {B : Option Value → jg_H → Prop} {s : jg_H} (x1 : Int32) (x2 : Int32) (y0 : Int32)
    (k1 : ¬ y0 = 0 → q_P G (d + 2) 208 [.ref 146, .int x1] s (fun v t => q_W G (d + 2) jm_M_foresee B 33 [some (.ref 146), some (.int x1), some (.int x2)] (v.toList ++ []) t))
    (k2 : y0 = 0 → B (some (.long (-4611686018427387904))) s) :
    q_W G (d + 2) jm_M_foresee B 21 [some (.ref 146), some (.int x1), some (.int x2)] [.int y0] s := by
  refine q_if_ne (pc' := 24) ja_M_foresee_21 rfl ?_ ?_
  · intro h1
    refine q_aload_n (pc' := 29) ja_M_foresee_28 rfl rfl ?_
    refine q_iload_n (pc' := 30) ja_M_foresee_29 rfl rfl ?_
    refine q_virt (pc' := 33) (c := 146) (as := [.int x1]) (r := []) ja_M_foresee_30 rfl rfl rfl (by decide) ⟨rfl, by decide⟩ ?_
    exact (k1 h1)
  · intro h2
    refine q_ldc2 (pc' := 27) ja_M_foresee_24 rfl (-4611686018427387904) (by decide) ?_
    exact q_lret ja_M_foresee_27 rfl (k2 h2)
set_option maxRecDepth 20000 in
theorem t_M_foresee_33 {G : jv_X} {d : Nat} {B : Option Value → jg_H → Prop} {s : jg_H} (x1 : Int32) (x2 : Int32)
    (k1 : q_P G (d + 2) 170 [.ref 146, .int x2] s (fun v t => q_W G (d + 2) jm_M_foresee B 38 [some (.ref 146), some (.int x1), some (.int x2)] (v.toList ++ []) t)) :
    q_W G (d + 2) jm_M_foresee B 33 [some (.ref 146), some (.int x1), some (.int x2)] [] s := by
  refine q_aload_n (pc' := 34) ja_M_foresee_33 rfl rfl ?_
  refine q_iload_n (pc' := 35) ja_M_foresee_34 rfl rfl ?_
  refine q_virt (pc' := 38) (c := 146) (as := [.int x2]) (r := []) ja_M_foresee_35 rfl rfl rfl (by decide) ⟨rfl, by decide⟩ ?_
  exact k1
set_option maxRecDepth 20000 in
theorem t_M_foresee_38 {G : jv_X} {d : Nat} {B : Option Value → jg_H → Prop} {s : jg_H} (x1 : Int32) (x2 : Int32) (y0 : Int32)
    (k1 : B (some (.long (y0).toInt64)) s) :
    q_W G (d + 2) jm_M_foresee B 38 [some (.ref 146), some (.int x1), some (.int x2)] [.int y0] s := by
  refine q_i2l (pc' := 39) ja_M_foresee_38 rfl ?_
  exact q_lret ja_M_foresee_39 rfl k1
set_option maxRecDepth 20000 in
theorem t_M_foresees {G : jv_X} {d : Nat} {B : Option Value → jg_H → Prop} {s : jg_H} (a1 : Int32)
    (k1 : q_P G (d + 2) 169 [.ref 146, .int (s 146 13)] s (fun v t => q_W G (d + 2) jm_M_foresees B 8 [some (.ref 146), some (.int a1), none, none, none, none, none, none] (v.toList ++ []) t)) :
    q_P G (d + 3) 208 [.ref 146, .int a1] s B := by
  refine q_in (M := jm_M_foresees) rfl (Nat.le_of_ble_eq_true rfl) (ls := [some (.ref 146), some (.int a1), none, none, none, none, none, none]) rfl ?_
  refine q_aload_n (pc' := 1) ja_M_foresees_0 rfl rfl ?_
  refine q_aload_n (pc' := 2) ja_M_foresees_1 rfl rfl ?_
  refine q_getf (pc' := 5) (v := .int (s 146 13)) ja_M_foresees_2 rfl (by decide) ⟨rfl, by decide⟩ rfl ?_
  refine q_virt (pc' := 8) (c := 146) (as := [.int (s 146 13)]) (r := []) ja_M_foresees_5 rfl rfl rfl (by decide) ⟨rfl, by decide⟩ ?_
  exact k1
set_option maxRecDepth 20000 in
theorem t_M_foresees_8 {G : jv_X} {d : Nat} {B : Option Value → jg_H → Prop} {s : jg_H} (x1 : Int32)
    (k1 : q_W G (d + 2) jm_M_foresees B 10 [some (.ref 146), some (.int x1), some (.int 0), none, none, none, none, none] [] s) :
    q_W G (d + 2) jm_M_foresees B 8 [some (.ref 146), some (.int x1), none, none, none, none, none, none] [] s := by
  refine q_iconst (pc' := 9) ja_M_foresees_8 rfl 0 (by decide) ?_
  refine q_istore_n (pc' := 10) (ls' := [some (.ref 146), some (.int x1), some (.int 0), none, none, none, none, none]) ja_M_foresees_9 rfl ⟨Nat.le_of_ble_eq_true rfl, rfl⟩ rfl ?_
  exact k1
set_option maxRecDepth 20000 in
theorem t_M_foresees_10 {G : jv_X} {d : Nat} {B : Option Value → jg_H → Prop} {s : jg_H} (x1 : Int32) (x2 : Int32) {o3 : Option Value} (ho3 : f_n o3 = true)
    (k1 : ¬ x2 < (s 146 19) → q_W G (d + 2) jm_M_foresees B 103 [some (.ref 146), some (.int x1), some (.int x1), some (.int 0), none, none, none, none] [] s)
    (k2 : x2 < (s 146 19) → jv_in x2 5 = true)
    (k3 : x2 < (s 146 19) → jv_in (8 + x2) 13 = true)
    (k4 : x2 < (s 146 19) → ∀ s1 : jg_H, s1 = jg_up s 157 (8 + x2).toNatClampNeg (s 172 x2.toNatClampNeg) → jv_in x2 5 = true)
    (k5 : x2 < (s 146 19) → ∀ s1 : jg_H, s1 = jg_up s 157 (8 + x2).toNatClampNeg (s 172 x2.toNatClampNeg) → jv_in (8 + x2) 13 = true)
    (k6 : x2 < (s 146 19) → ∀ s1 : jg_H, s1 = jg_up s 157 (8 + x2).toNatClampNeg (s 172 x2.toNatClampNeg) → ∀ s2 : jg_H, s2 = jg_up s1 159 (8 + x2).toNatClampNeg (s1 173 x2.toNatClampNeg) → jv_in x2 5 = true)
    (k7 : x2 < (s 146 19) → ∀ s1 : jg_H, s1 = jg_up s 157 (8 + x2).toNatClampNeg (s 172 x2.toNatClampNeg) → ∀ s2 : jg_H, s2 = jg_up s1 159 (8 + x2).toNatClampNeg (s1 173 x2.toNatClampNeg) → jv_in (8 + x2) 13 = true)
    (k8 : x2 < (s 146 19) → ∀ s1 : jg_H, s1 = jg_up s 157 (8 + x2).toNatClampNeg (s 172 x2.toNatClampNeg) → ∀ s2 : jg_H, s2 = jg_up s1 159 (8 + x2).toNatClampNeg (s1 173 x2.toNatClampNeg) → ∀ s3 : jg_H, s3 = jg_up s2 160 (8 + x2).toNatClampNeg (s2 174 x2.toNatClampNeg) → jv_in (8 + x2) 13 = true)
    (k9 : x2 < (s 146 19) → ∀ s1 : jg_H, s1 = jg_up s 157 (8 + x2).toNatClampNeg (s 172 x2.toNatClampNeg) → ∀ s2 : jg_H, s2 = jg_up s1 159 (8 + x2).toNatClampNeg (s1 173 x2.toNatClampNeg) → ∀ s3 : jg_H, s3 = jg_up s2 160 (8 + x2).toNatClampNeg (s2 174 x2.toNatClampNeg) → ¬ (s3 157 (8 + x2).toNatClampNeg) = 2 → jv_in (8 + x2) 13 = true)
    (k10 : x2 < (s 146 19) → ∀ s1 : jg_H, s1 = jg_up s 157 (8 + x2).toNatClampNeg (s 172 x2.toNatClampNeg) → ∀ s2 : jg_H, s2 = jg_up s1 159 (8 + x2).toNatClampNeg (s1 173 x2.toNatClampNeg) → ∀ s3 : jg_H, s3 = jg_up s2 160 (8 + x2).toNatClampNeg (s2 174 x2.toNatClampNeg) → ¬ (s3 157 (8 + x2).toNatClampNeg) = 2 → ∀ s4 : jg_H, s4 = jg_up s3 161 (8 + x2).toNatClampNeg 0 → q_W G (d + 2) jm_M_foresees B 10 [some (.ref 146), some (.int x1), some (.int (x2 + 1)), some (.int (8 + x2)), none, none, none, none] [] s4)
    (k11 : x2 < (s 146 19) → ∀ s1 : jg_H, s1 = jg_up s 157 (8 + x2).toNatClampNeg (s 172 x2.toNatClampNeg) → ∀ s2 : jg_H, s2 = jg_up s1 159 (8 + x2).toNatClampNeg (s1 173 x2.toNatClampNeg) → ∀ s3 : jg_H, s3 = jg_up s2 160 (8 + x2).toNatClampNeg (s2 174 x2.toNatClampNeg) → (s3 157 (8 + x2).toNatClampNeg) = 2 → jv_in (8 + x2) 13 = true)
    (k12 : x2 < (s 146 19) → ∀ s1 : jg_H, s1 = jg_up s 157 (8 + x2).toNatClampNeg (s 172 x2.toNatClampNeg) → ∀ s2 : jg_H, s2 = jg_up s1 159 (8 + x2).toNatClampNeg (s1 173 x2.toNatClampNeg) → ∀ s3 : jg_H, s3 = jg_up s2 160 (8 + x2).toNatClampNeg (s2 174 x2.toNatClampNeg) → (s3 157 (8 + x2).toNatClampNeg) = 2 → ¬ (s3 159 (8 + x2).toNatClampNeg) = (s3 146 53) → jv_in (8 + x2) 13 = true)
    (k13 : x2 < (s 146 19) → ∀ s1 : jg_H, s1 = jg_up s 157 (8 + x2).toNatClampNeg (s 172 x2.toNatClampNeg) → ∀ s2 : jg_H, s2 = jg_up s1 159 (8 + x2).toNatClampNeg (s1 173 x2.toNatClampNeg) → ∀ s3 : jg_H, s3 = jg_up s2 160 (8 + x2).toNatClampNeg (s2 174 x2.toNatClampNeg) → (s3 157 (8 + x2).toNatClampNeg) = 2 → ¬ (s3 159 (8 + x2).toNatClampNeg) = (s3 146 53) → ∀ s5 : jg_H, s5 = jg_up s3 161 (8 + x2).toNatClampNeg 0 → q_W G (d + 2) jm_M_foresees B 10 [some (.ref 146), some (.int x1), some (.int (x2 + 1)), some (.int (8 + x2)), none, none, none, none] [] s5)
    (k14 : x2 < (s 146 19) → ∀ s1 : jg_H, s1 = jg_up s 157 (8 + x2).toNatClampNeg (s 172 x2.toNatClampNeg) → ∀ s2 : jg_H, s2 = jg_up s1 159 (8 + x2).toNatClampNeg (s1 173 x2.toNatClampNeg) → ∀ s3 : jg_H, s3 = jg_up s2 160 (8 + x2).toNatClampNeg (s2 174 x2.toNatClampNeg) → (s3 157 (8 + x2).toNatClampNeg) = 2 → (s3 159 (8 + x2).toNatClampNeg) = (s3 146 53) → jv_in (8 + x2) 13 = true)
    (k15 : x2 < (s 146 19) → ∀ s1 : jg_H, s1 = jg_up s 157 (8 + x2).toNatClampNeg (s 172 x2.toNatClampNeg) → ∀ s2 : jg_H, s2 = jg_up s1 159 (8 + x2).toNatClampNeg (s1 173 x2.toNatClampNeg) → ∀ s3 : jg_H, s3 = jg_up s2 160 (8 + x2).toNatClampNeg (s2 174 x2.toNatClampNeg) → (s3 157 (8 + x2).toNatClampNeg) = 2 → (s3 159 (8 + x2).toNatClampNeg) = (s3 146 53) → ∀ s6 : jg_H, s6 = jg_up s3 161 (8 + x2).toNatClampNeg 1 → q_W G (d + 2) jm_M_foresees B 10 [some (.ref 146), some (.int x1), some (.int (x2 + 1)), some (.int (8 + x2)), none, none, none, none] [] s6) :
    q_W G (d + 2) jm_M_foresees B 10 [some (.ref 146), some (.int x1), some (.int x2), o3, none, none, none, none] [] s := by
  refine q_iload_n (pc' := 11) ja_M_foresees_10 rfl rfl ?_
  refine q_aload_n (pc' := 12) ja_M_foresees_11 rfl rfl ?_
  refine q_getf (pc' := 15) (v := .int (s 146 19)) ja_M_foresees_12 rfl (by decide) ⟨rfl, by decide⟩ rfl ?_
  refine q_ic_ge (pc' := 18) ja_M_foresees_15 rfl ?_ ?_
  · intro h1
    refine q_iload_n (pc' := 100) ja_M_foresees_99 rfl rfl ?_
    refine q_istore_n (pc' := 101) (ls' := [some (.ref 146), some (.int x1), some (.int x1), o3, none, none, none, none]) ja_M_foresees_100 rfl ⟨Nat.le_of_ble_eq_true rfl, rfl⟩ rfl ?_
    refine q_iconst (pc' := 102) ja_M_foresees_101 rfl 0 (by decide) ?_
    refine q_istore_n (pc' := 103) (ls' := [some (.ref 146), some (.int x1), some (.int x1), some (.int 0), none, none, none, none]) ja_M_foresees_102 rfl ⟨Nat.le_of_ble_eq_true rfl, rfl⟩ rfl ?_
    exact (k1 h1)
  · intro h2
    refine q_bipush (pc' := 20) ja_M_foresees_18 rfl 8 (by decide) ?_
    refine q_iload_n (pc' := 21) ja_M_foresees_20 rfl rfl ?_
    refine q_iadd (pc' := 22) ja_M_foresees_21 rfl ?_
    refine q_istore_n (pc' := 23) (ls' := [some (.ref 146), some (.int x1), some (.int x2), some (.int (8 + x2)), none, none, none, none]) ja_M_foresees_22 rfl ⟨Nat.le_of_ble_eq_true rfl, rfl⟩ rfl ?_
    refine q_aload_n (pc' := 24) ja_M_foresees_23 rfl rfl ?_
    refine q_getf (pc' := 27) (v := .ref 157) ja_M_foresees_24 rfl (by decide) ⟨rfl, by decide⟩ rfl ?_
    refine q_iload_n (pc' := 28) ja_M_foresees_27 rfl rfl ?_
    refine q_aload_n (pc' := 29) ja_M_foresees_28 rfl rfl ?_
    refine q_getf (pc' := 32) (v := .ref 172) ja_M_foresees_29 rfl (by decide) ⟨rfl, by decide⟩ rfl ?_
    refine q_iload_n (pc' := 33) ja_M_foresees_32 rfl rfl ?_
    refine q_iald (pc' := 34) (v := .int (s 172 x2.toNatClampNeg)) ja_M_foresees_33 rfl (by decide) (l := 5) rfl (k2 h2) rfl ?_
    refine q_iast (pc' := 35) ja_M_foresees_34 rfl (by decide) (l := 13) rfl (k3 h2) ?_
    intro s1 e1
    refine q_aload_n (pc' := 36) ja_M_foresees_35 rfl rfl ?_
    refine q_getf (pc' := 39) (v := .ref 159) ja_M_foresees_36 rfl (by decide) ⟨rfl, by decide⟩ rfl ?_
    refine q_iload_n (pc' := 40) ja_M_foresees_39 rfl rfl ?_
    refine q_aload_n (pc' := 41) ja_M_foresees_40 rfl rfl ?_
    refine q_getf (pc' := 44) (v := .ref 173) ja_M_foresees_41 rfl (by decide) ⟨rfl, by decide⟩ rfl ?_
    refine q_iload_n (pc' := 45) ja_M_foresees_44 rfl rfl ?_
    refine q_iald (pc' := 46) (v := .int (s1 173 x2.toNatClampNeg)) ja_M_foresees_45 rfl (by decide) (l := 5) rfl (k4 h2 s1 e1) rfl ?_
    refine q_iast (pc' := 47) ja_M_foresees_46 rfl (by decide) (l := 13) rfl (k5 h2 s1 e1) ?_
    intro s2 e2
    refine q_aload_n (pc' := 48) ja_M_foresees_47 rfl rfl ?_
    refine q_getf (pc' := 51) (v := .ref 160) ja_M_foresees_48 rfl (by decide) ⟨rfl, by decide⟩ rfl ?_
    refine q_iload_n (pc' := 52) ja_M_foresees_51 rfl rfl ?_
    refine q_aload_n (pc' := 53) ja_M_foresees_52 rfl rfl ?_
    refine q_getf (pc' := 56) (v := .ref 174) ja_M_foresees_53 rfl (by decide) ⟨rfl, by decide⟩ rfl ?_
    refine q_iload_n (pc' := 57) ja_M_foresees_56 rfl rfl ?_
    refine q_iald (pc' := 58) (v := .int (s2 174 x2.toNatClampNeg)) ja_M_foresees_57 rfl (by decide) (l := 5) rfl (k6 h2 s1 e1 s2 e2) rfl ?_
    refine q_iast (pc' := 59) ja_M_foresees_58 rfl (by decide) (l := 13) rfl (k7 h2 s1 e1 s2 e2) ?_
    intro s3 e3
    refine q_aload_n (pc' := 60) ja_M_foresees_59 rfl rfl ?_
    refine q_getf (pc' := 63) (v := .ref 161) ja_M_foresees_60 rfl (by decide) ⟨rfl, by decide⟩ rfl ?_
    refine q_iload_n (pc' := 64) ja_M_foresees_63 rfl rfl ?_
    refine q_aload_n (pc' := 65) ja_M_foresees_64 rfl rfl ?_
    refine q_getf (pc' := 68) (v := .ref 157) ja_M_foresees_65 rfl (by decide) ⟨rfl, by decide⟩ rfl ?_
    refine q_iload_n (pc' := 69) ja_M_foresees_68 rfl rfl ?_
    refine q_iald (pc' := 70) (v := .int (s3 157 (8 + x2).toNatClampNeg)) ja_M_foresees_69 rfl (by decide) (l := 13) rfl (k8 h2 s1 e1 s2 e2 s3 e3) rfl ?_
    refine q_iconst (pc' := 71) ja_M_foresees_70 rfl 2 (by decide) ?_
    refine q_ic_ne (pc' := 74) ja_M_foresees_71 rfl ?_ ?_
    · intro h3
      refine q_iconst (pc' := 92) ja_M_foresees_91 rfl 0 (by decide) ?_
      refine q_bast (pc' := 93) ja_M_foresees_92 rfl (by decide) (l := 13) rfl (k9 h2 s1 e1 s2 e2 s3 e3 h3) (by decide) ?_
      intro s4 e4
      refine q_iinc (pc' := 96) (ls' := [some (.ref 146), some (.int x1), some (.int (x2 + 1)), some (.int (8 + x2)), none, none, none, none]) ja_M_foresees_93 rfl rfl (x2 + 1) rfl ⟨Nat.le_of_ble_eq_true rfl, rfl⟩ rfl ?_
      refine q_goto ja_M_foresees_96 ?_
      exact (k10 h2 s1 e1 s2 e2 s3 e3 h3 s4 e4)
    · intro h4
      refine q_aload_n (pc' := 75) ja_M_foresees_74 rfl rfl ?_
      refine q_getf (pc' := 78) (v := .ref 159) ja_M_foresees_75 rfl (by decide) ⟨rfl, by decide⟩ rfl ?_
      refine q_iload_n (pc' := 79) ja_M_foresees_78 rfl rfl ?_
      refine q_iald (pc' := 80) (v := .int (s3 159 (8 + x2).toNatClampNeg)) ja_M_foresees_79 rfl (by decide) (l := 13) rfl (k11 h2 s1 e1 s2 e2 s3 e3 h4) rfl ?_
      refine q_aload_n (pc' := 81) ja_M_foresees_80 rfl rfl ?_
      refine q_getf (pc' := 84) (v := .int (s3 146 53)) ja_M_foresees_81 rfl (by decide) ⟨rfl, by decide⟩ rfl ?_
      refine q_ic_ne (pc' := 87) ja_M_foresees_84 rfl ?_ ?_
      · intro h5
        refine q_iconst (pc' := 92) ja_M_foresees_91 rfl 0 (by decide) ?_
        refine q_bast (pc' := 93) ja_M_foresees_92 rfl (by decide) (l := 13) rfl (k12 h2 s1 e1 s2 e2 s3 e3 h4 h5) (by decide) ?_
        intro s5 e5
        refine q_iinc (pc' := 96) (ls' := [some (.ref 146), some (.int x1), some (.int (x2 + 1)), some (.int (8 + x2)), none, none, none, none]) ja_M_foresees_93 rfl rfl (x2 + 1) rfl ⟨Nat.le_of_ble_eq_true rfl, rfl⟩ rfl ?_
        refine q_goto ja_M_foresees_96 ?_
        exact (k13 h2 s1 e1 s2 e2 s3 e3 h4 h5 s5 e5)
      · intro h6
        refine q_iconst (pc' := 88) ja_M_foresees_87 rfl 1 (by decide) ?_
        refine q_goto ja_M_foresees_88 ?_
        refine q_bast (pc' := 93) ja_M_foresees_92 rfl (by decide) (l := 13) rfl (k14 h2 s1 e1 s2 e2 s3 e3 h4 h6) (by decide) ?_
        intro s6 e6
        refine q_iinc (pc' := 96) (ls' := [some (.ref 146), some (.int x1), some (.int (x2 + 1)), some (.int (8 + x2)), none, none, none, none]) ja_M_foresees_93 rfl rfl (x2 + 1) rfl ⟨Nat.le_of_ble_eq_true rfl, rfl⟩ rfl ?_
        refine q_goto ja_M_foresees_96 ?_
        exact (k15 h2 s1 e1 s2 e2 s3 e3 h4 h6 s6 e6)
set_option maxRecDepth 20000 in
theorem t_M_foresees_103 {G : jv_X} {d : Nat} {B : Option Value → jg_H → Prop} {s : jg_H} (x1 : Int32) (x2 : Int32) (x3 : Int32) {o4 : Option Value} (ho4 : f_n o4 = true) {o5 : Option Value} (ho5 : f_n o5 = true) {o6 : Option Value} (ho6 : f_n o6 = true) {o7 : Option Value} (ho7 : f_n o7 = true)
    (k1 : ¬ x3 < (s 146 19) → B none s)
    (k2 : x3 < (s 146 19) → jv_in (8 + (x2 - x2 / 6 * 6)) 13 = true)
    (k3 : x3 < (s 146 19) → q_P G (d + 2) 190 [.ref 146, .int (8 + (x2 - x2 / 6 * 6)), .int 1] s (fun v t => q_W G (d + 2) jm_M_foresees B 147 [some (.ref 146), some (.int x1), some (.int (x2 / 6)), some (.int x3), some (.int (8 + (x2 - x2 / 6 * 6))), o5, o6, o7] (v.toList ++ [.int 0, .int 0, .int (s 157 (8 + (x2 - x2 / 6 * 6)).toNatClampNeg), .int 2, .int (s 146 15), .ref 146]) t)) :
    q_W G (d + 2) jm_M_foresees B 103 [some (.ref 146), some (.int x1), some (.int x2), some (.int x3), o4, o5, o6, o7] [] s := by
  refine q_iload_n (pc' := 104) ja_M_foresees_103 rfl rfl ?_
  refine q_aload_n (pc' := 105) ja_M_foresees_104 rfl rfl ?_
  refine q_getf (pc' := 108) (v := .int (s 146 19)) ja_M_foresees_105 rfl (by decide) ⟨rfl, by decide⟩ rfl ?_
  refine q_ic_ge (pc' := 111) ja_M_foresees_108 rfl ?_ ?_
  · intro h1
    exact q_vret ja_M_foresees_245 rfl (k1 h1)
  · intro h2
    refine q_bipush (pc' := 113) ja_M_foresees_111 rfl 8 (by decide) ?_
    refine q_iload_n (pc' := 114) ja_M_foresees_113 rfl rfl ?_
    refine q_bipush (pc' := 116) ja_M_foresees_114 rfl 6 (by decide) ?_
    refine q_irem (pc' := 117) ja_M_foresees_116 rfl (by decide) ?_
    refine q_iadd (pc' := 118) ja_M_foresees_117 rfl ?_
    refine q_istore (pc' := 120) (ls' := [some (.ref 146), some (.int x1), some (.int x2), some (.int x3), some (.int (8 + (x2 - x2 / 6 * 6))), o5, o6, o7]) ja_M_foresees_118 rfl ⟨Nat.le_of_ble_eq_true rfl, rfl⟩ rfl ?_
    refine q_iload_n (pc' := 121) ja_M_foresees_120 rfl rfl ?_
    refine q_bipush (pc' := 123) ja_M_foresees_121 rfl 6 (by decide) ?_
    refine q_idiv (pc' := 124) ja_M_foresees_123 rfl (by decide) ?_
    refine q_istore_n (pc' := 125) (ls' := [some (.ref 146), some (.int x1), some (.int (x2 / 6)), some (.int x3), some (.int (8 + (x2 - x2 / 6 * 6))), o5, o6, o7]) ja_M_foresees_124 rfl ⟨Nat.le_of_ble_eq_true rfl, rfl⟩ rfl ?_
    refine q_aload_n (pc' := 126) ja_M_foresees_125 rfl rfl ?_
    refine q_aload_n (pc' := 127) ja_M_foresees_126 rfl rfl ?_
    refine q_getf (pc' := 130) (v := .int (s 146 15)) ja_M_foresees_127 rfl (by decide) ⟨rfl, by decide⟩ rfl ?_
    refine q_iconst (pc' := 131) ja_M_foresees_130 rfl 2 (by decide) ?_
    refine q_aload_n (pc' := 132) ja_M_foresees_131 rfl rfl ?_
    refine q_getf (pc' := 135) (v := .ref 157) ja_M_foresees_132 rfl (by decide) ⟨rfl, by decide⟩ rfl ?_
    refine q_iload (pc' := 137) ja_M_foresees_135 rfl rfl ?_
    refine q_iald (pc' := 138) (v := .int (s 157 (8 + (x2 - x2 / 6 * 6)).toNatClampNeg)) ja_M_foresees_137 rfl (by decide) (l := 13) rfl (k2 h2) rfl ?_
    refine q_iconst (pc' := 139) ja_M_foresees_138 rfl 0 (by decide) ?_
    refine q_iconst (pc' := 140) ja_M_foresees_139 rfl 0 (by decide) ?_
    refine q_aload_n (pc' := 141) ja_M_foresees_140 rfl rfl ?_
    refine q_iload (pc' := 143) ja_M_foresees_141 rfl rfl ?_
    refine q_iconst (pc' := 144) ja_M_foresees_143 rfl 1 (by decide) ?_
    refine q_virt (pc' := 147) (c := 146) (as := [.int (8 + (x2 - x2 / 6 * 6)), .int 1]) (r := [.int 0, .int 0, .int (s 157 (8 + (x2 - x2 / 6 * 6)).toNatClampNeg), .int 2, .int (s 146 15), .ref 146]) ja_M_foresees_144 rfl rfl rfl (by decide) ⟨rfl, by decide⟩ ?_
    exact (k3 h2)
set_option maxRecDepth 20000 in
theorem t_M_foresees_147 {G : jv_X} {d : Nat} {B : Option Value → jg_H → Prop} {s : jg_H} (x1 : Int32) (x2 : Int32) (x3 : Int32) (x4 : Int32) {o5 : Option Value} (ho5 : f_n o5 = true) {o6 : Option Value} (ho6 : f_n o6 = true) {o7 : Option Value} (ho7 : f_n o7 = true) (y1 : Int32) (y2 : Int32) (y3 : Int32) (y4 : Int32) (y5 : Int32) (y6 : Int32)
    (k1 : q_P G (d + 2) 190 [.ref 146, .int x4, .int 2] s (fun v t => q_W G (d + 2) jm_M_foresees B 154 [some (.ref 146), some (.int x1), some (.int x2), some (.int x3), some (.int x4), o5, o6, o7] (v.toList ++ [.int y6, .int y5, .int y4, .int y3, .int y2, .int y1, .ref 146]) t)) :
    q_W G (d + 2) jm_M_foresees B 147 [some (.ref 146), some (.int x1), some (.int x2), some (.int x3), some (.int x4), o5, o6, o7] [.int y6, .int y5, .int y4, .int y3, .int y2, .int y1, .ref 146] s := by
  refine q_aload_n (pc' := 148) ja_M_foresees_147 rfl rfl ?_
  refine q_iload (pc' := 150) ja_M_foresees_148 rfl rfl ?_
  refine q_iconst (pc' := 151) ja_M_foresees_150 rfl 2 (by decide) ?_
  refine q_virt (pc' := 154) (c := 146) (as := [.int x4, .int 2]) (r := [.int y6, .int y5, .int y4, .int y3, .int y2, .int y1, .ref 146]) ja_M_foresees_151 rfl rfl rfl (by decide) ⟨rfl, by decide⟩ ?_
  exact k1
set_option maxRecDepth 20000 in
theorem t_M_foresees_154 {G : jv_X} {d : Nat} {B : Option Value → jg_H → Prop} {s : jg_H} (x1 : Int32) (x2 : Int32) (x3 : Int32) (x4 : Int32) {o5 : Option Value} (ho5 : f_n o5 = true) {o6 : Option Value} (ho6 : f_n o6 = true) {o7 : Option Value} (ho7 : f_n o7 = true) (y1 : Int32) (y2 : Int32) (y3 : Int32) (y4 : Int32) (y5 : Int32) (y6 : Int32) (y7 : Int32)
    (k1 : q_P G (d + 2) 178 [.ref 146, .int y1, .int y2, .int y3, .int y4, .int y5, .int y6, .int y7] s (fun v t => q_W G (d + 2) jm_M_foresees B 157 [some (.ref 146), some (.int x1), some (.int x2), some (.int x3), some (.int x4), o5, o6, o7] (v.toList ++ []) t)) :
    q_W G (d + 2) jm_M_foresees B 154 [some (.ref 146), some (.int x1), some (.int x2), some (.int x3), some (.int x4), o5, o6, o7] [.int y7, .int y6, .int y5, .int y4, .int y3, .int y2, .int y1, .ref 146] s := by
  refine q_virt (pc' := 157) (c := 146) (as := [.int y1, .int y2, .int y3, .int y4, .int y5, .int y6, .int y7]) (r := []) ja_M_foresees_154 rfl rfl rfl (by decide) ⟨rfl, by decide⟩ ?_
  exact k1
set_option maxRecDepth 20000 in
theorem t_M_foresees_157 {G : jv_X} {d : Nat} {B : Option Value → jg_H → Prop} {s : jg_H} (x1 : Int32) (x2 : Int32) (x3 : Int32) (x4 : Int32) {o5 : Option Value} (ho5 : f_n o5 = true) {o6 : Option Value} (ho6 : f_n o6 = true) {o7 : Option Value} (ho7 : f_n o7 = true) (y0 : Int32)
    (k1 : y0 = 0 → q_W G (d + 2) jm_M_foresees B 103 [some (.ref 146), some (.int x1), some (.int x2), some (.int (x3 + 1)), some (.int x4), some (.int 0), o6, o7] [] s)
    (k2 : ¬ y0 = 0 → jv_in x4 13 = true)
    (k3 : ¬ y0 = 0 → (s 159 x4.toNatClampNeg) = (-1) → q_W G (d + 2) jm_M_foresees B 103 [some (.ref 146), some (.int x1), some (.int x2), some (.int (x3 + 1)), some (.int x4), some (.int 1), o6, o7] [] s)
    (k4 : ¬ y0 = 0 → ¬ (s 159 x4.toNatClampNeg) = (-1) → jv_in x4 13 = true)
    (k5 : ¬ y0 = 0 → ¬ (s 159 x4.toNatClampNeg) = (-1) → ¬ (s 157 x4.toNatClampNeg) = 2 → jv_in x4 13 = true)
    (k6 : ¬ y0 = 0 → ¬ (s 159 x4.toNatClampNeg) = (-1) → ¬ (s 157 x4.toNatClampNeg) = 2 → (s 161 x4.toNatClampNeg) = 0 → jv_in x4 13 = true)
    (k7 : ¬ y0 = 0 → ¬ (s 159 x4.toNatClampNeg) = (-1) → ¬ (s 157 x4.toNatClampNeg) = 2 → (s 161 x4.toNatClampNeg) = 0 → q_P G (d + 2) 198 [.ref 146, .int x4] s (fun v t => q_W G (d + 2) jm_M_foresees B 195 [some (.ref 146), some (.int x1), some (.int x2), some (.int x3), some (.int x4), some (.int 1), some (.int (s 159 x4.toNatClampNeg)), o7] (v.toList ++ []) t))
    (k8 : ¬ y0 = 0 → ¬ (s 159 x4.toNatClampNeg) = (-1) → ¬ (s 157 x4.toNatClampNeg) = 2 → ¬ (s 161 x4.toNatClampNeg) = 0 → q_P G (d + 2) 198 [.ref 146, .int x4] s (fun v t => q_W G (d + 2) jm_M_foresees B 195 [some (.ref 146), some (.int x1), some (.int x2), some (.int x3), some (.int x4), some (.int 1), some (.int (s 146 53)), o7] (v.toList ++ []) t))
    (k9 : ¬ y0 = 0 → ¬ (s 159 x4.toNatClampNeg) = (-1) → (s 157 x4.toNatClampNeg) = 2 → ¬ (s 146 53) < 10 → q_W G (d + 2) jm_M_foresees B 103 [some (.ref 146), some (.int x1), some (.int x2), some (.int (x3 + 1)), some (.int x4), some (.int 1), o6, o7] [] s)
    (k10 : ¬ y0 = 0 → ¬ (s 159 x4.toNatClampNeg) = (-1) → (s 157 x4.toNatClampNeg) = 2 → (s 146 53) < 10 → jv_in x4 13 = true)
    (k11 : ¬ y0 = 0 → ¬ (s 159 x4.toNatClampNeg) = (-1) → (s 157 x4.toNatClampNeg) = 2 → (s 146 53) < 10 → (s 161 x4.toNatClampNeg) = 0 → jv_in x4 13 = true)
    (k12 : ¬ y0 = 0 → ¬ (s 159 x4.toNatClampNeg) = (-1) → (s 157 x4.toNatClampNeg) = 2 → (s 146 53) < 10 → (s 161 x4.toNatClampNeg) = 0 → q_P G (d + 2) 198 [.ref 146, .int x4] s (fun v t => q_W G (d + 2) jm_M_foresees B 195 [some (.ref 146), some (.int x1), some (.int x2), some (.int x3), some (.int x4), some (.int 1), some (.int (s 159 x4.toNatClampNeg)), o7] (v.toList ++ []) t))
    (k13 : ¬ y0 = 0 → ¬ (s 159 x4.toNatClampNeg) = (-1) → (s 157 x4.toNatClampNeg) = 2 → (s 146 53) < 10 → ¬ (s 161 x4.toNatClampNeg) = 0 → q_P G (d + 2) 198 [.ref 146, .int x4] s (fun v t => q_W G (d + 2) jm_M_foresees B 195 [some (.ref 146), some (.int x1), some (.int x2), some (.int x3), some (.int x4), some (.int 1), some (.int (s 146 53)), o7] (v.toList ++ []) t)) :
    q_W G (d + 2) jm_M_foresees B 157 [some (.ref 146), some (.int x1), some (.int x2), some (.int x3), some (.int x4), o5, o6, o7] [.int y0] s := by
  refine q_if_eq (pc' := 160) ja_M_foresees_157 rfl ?_ ?_
  · intro h1
    refine q_iconst (pc' := 165) ja_M_foresees_164 rfl 0 (by decide) ?_
    refine q_istore (pc' := 167) (ls' := [some (.ref 146), some (.int x1), some (.int x2), some (.int x3), some (.int x4), some (.int 0), o6, o7]) ja_M_foresees_165 rfl ⟨Nat.le_of_ble_eq_true rfl, rfl⟩ rfl ?_
    refine q_iload (pc' := 169) ja_M_foresees_167 rfl rfl ?_
    refine q_if_eq (pc' := 172) ja_M_foresees_169 rfl (fun _ => ?_) (fun h => absurd ((by decide : (0 : Int32) = 0)) h)
    refine q_iinc (pc' := 242) (ls' := [some (.ref 146), some (.int x1), some (.int x2), some (.int (x3 + 1)), some (.int x4), some (.int 0), o6, o7]) ja_M_foresees_239 rfl rfl (x3 + 1) rfl ⟨Nat.le_of_ble_eq_true rfl, rfl⟩ rfl ?_
    refine q_goto ja_M_foresees_242 ?_
    exact (k1 h1)
  · intro h2
    refine q_iconst (pc' := 161) ja_M_foresees_160 rfl 1 (by decide) ?_
    refine q_goto ja_M_foresees_161 ?_
    refine q_istore (pc' := 167) (ls' := [some (.ref 146), some (.int x1), some (.int x2), some (.int x3), some (.int x4), some (.int 1), o6, o7]) ja_M_foresees_165 rfl ⟨Nat.le_of_ble_eq_true rfl, rfl⟩ rfl ?_
    refine q_iload (pc' := 169) ja_M_foresees_167 rfl rfl ?_
    refine q_if_eq (pc' := 172) ja_M_foresees_169 rfl (fun h => absurd h ((by decide : ¬ (1 : Int32) = 0))) (fun _ => ?_)
    refine q_aload_n (pc' := 173) ja_M_foresees_172 rfl rfl ?_
    refine q_iload (pc' := 175) ja_M_foresees_173 rfl rfl ?_
    refine q_virt (pc' := 178) (c := 146) (as := [.int x4]) (r := []) ja_M_foresees_175 rfl rfl rfl (by decide) ⟨rfl, by decide⟩ ?_
    refine q_in (M := jm_M_isDoable) rfl (Nat.le_of_ble_eq_true rfl) (ls := [some (.ref 146), some (.int x4)]) rfl ?_
    refine q_aload_n (pc' := 1) ja_M_isDoable_0 rfl rfl ?_
    refine q_getf (pc' := 4) (v := .ref 159) ja_M_isDoable_1 rfl (by decide) ⟨rfl, by decide⟩ rfl ?_
    refine q_iload_n (pc' := 5) ja_M_isDoable_4 rfl rfl ?_
    refine q_iald (pc' := 6) (v := .int (s 159 x4.toNatClampNeg)) ja_M_isDoable_5 rfl (by decide) (l := 13) rfl (k2 h2) rfl ?_
    refine q_iconst (pc' := 7) ja_M_isDoable_6 rfl (-1) (by decide) ?_
    refine q_ic_eq (pc' := 10) ja_M_isDoable_7 rfl ?_ ?_
    · intro h3
      refine q_iconst (pc' := 34) ja_M_isDoable_33 rfl 0 (by decide) ?_
      refine q_iret ja_M_isDoable_34 rfl (by decide) ?_
      show q_W _ _ _ _ 178 [some (.ref 146), some (.int x1), some (.int x2), some (.int x3), some (.int x4), some (.int 1), o6, o7] [.int 0] s
      refine q_if_eq (pc' := 181) ja_M_foresees_178 rfl (fun _ => ?_) (fun h => absurd ((by decide : (0 : Int32) = 0)) h)
      refine q_iinc (pc' := 242) (ls' := [some (.ref 146), some (.int x1), some (.int x2), some (.int (x3 + 1)), some (.int x4), some (.int 1), o6, o7]) ja_M_foresees_239 rfl rfl (x3 + 1) rfl ⟨Nat.le_of_ble_eq_true rfl, rfl⟩ rfl ?_
      refine q_goto ja_M_foresees_242 ?_
      exact (k3 h2 h3)
    · intro h4
      refine q_aload_n (pc' := 11) ja_M_isDoable_10 rfl rfl ?_
      refine q_getf (pc' := 14) (v := .ref 157) ja_M_isDoable_11 rfl (by decide) ⟨rfl, by decide⟩ rfl ?_
      refine q_iload_n (pc' := 15) ja_M_isDoable_14 rfl rfl ?_
      refine q_iald (pc' := 16) (v := .int (s 157 x4.toNatClampNeg)) ja_M_isDoable_15 rfl (by decide) (l := 13) rfl (k4 h2 h4) rfl ?_
      refine q_iconst (pc' := 17) ja_M_isDoable_16 rfl 2 (by decide) ?_
      refine q_ic_ne (pc' := 20) ja_M_isDoable_17 rfl ?_ ?_
      · intro h5
        refine q_iconst (pc' := 30) ja_M_isDoable_29 rfl 1 (by decide) ?_
        refine q_goto ja_M_isDoable_30 ?_
        refine q_iret ja_M_isDoable_34 rfl (by decide) ?_
        show q_W _ _ _ _ 178 [some (.ref 146), some (.int x1), some (.int x2), some (.int x3), some (.int x4), some (.int 1), o6, o7] [.int 1] s
        refine q_if_eq (pc' := 181) ja_M_foresees_178 rfl (fun h => absurd h ((by decide : ¬ (1 : Int32) = 0))) (fun _ => ?_)
        refine q_aload_n (pc' := 182) ja_M_foresees_181 rfl rfl ?_
        refine q_iload (pc' := 184) ja_M_foresees_182 rfl rfl ?_
        refine q_virt (pc' := 187) (c := 146) (as := [.int x4]) (r := []) ja_M_foresees_184 rfl rfl rfl (by decide) ⟨rfl, by decide⟩ ?_
        refine q_in (M := jm_M_sectionOf) rfl (Nat.le_of_ble_eq_true rfl) (ls := [some (.ref 146), some (.int x4)]) rfl ?_
        refine q_aload_n (pc' := 1) ja_M_sectionOf_0 rfl rfl ?_
        refine q_getf (pc' := 4) (v := .ref 161) ja_M_sectionOf_1 rfl (by decide) ⟨rfl, by decide⟩ rfl ?_
        refine q_iload_n (pc' := 5) ja_M_sectionOf_4 rfl rfl ?_
        refine q_bald (pc' := 6) (v := .int (s 161 x4.toNatClampNeg)) ja_M_sectionOf_5 rfl (by decide) (l := 13) rfl (k5 h2 h4 h5) rfl ?_
        refine q_if_eq (pc' := 9) ja_M_sectionOf_6 rfl ?_ ?_
        · intro h6
          refine q_aload_n (pc' := 17) ja_M_sectionOf_16 rfl rfl ?_
          refine q_getf (pc' := 20) (v := .ref 159) ja_M_sectionOf_17 rfl (by decide) ⟨rfl, by decide⟩ rfl ?_
          refine q_iload_n (pc' := 21) ja_M_sectionOf_20 rfl rfl ?_
          refine q_iald (pc' := 22) (v := .int (s 159 x4.toNatClampNeg)) ja_M_sectionOf_21 rfl (by decide) (l := 13) rfl (k6 h2 h4 h5 h6) rfl ?_
          refine q_iret ja_M_sectionOf_22 rfl rfl ?_
          show q_W _ _ _ _ 187 [some (.ref 146), some (.int x1), some (.int x2), some (.int x3), some (.int x4), some (.int 1), o6, o7] [.int (s 159 x4.toNatClampNeg)] s
          refine q_istore (pc' := 189) (ls' := [some (.ref 146), some (.int x1), some (.int x2), some (.int x3), some (.int x4), some (.int 1), some (.int (s 159 x4.toNatClampNeg)), o7]) ja_M_foresees_187 rfl ⟨Nat.le_of_ble_eq_true rfl, rfl⟩ rfl ?_
          refine q_aload_n (pc' := 190) ja_M_foresees_189 rfl rfl ?_
          refine q_iload (pc' := 192) ja_M_foresees_190 rfl rfl ?_
          refine q_virt (pc' := 195) (c := 146) (as := [.int x4]) (r := []) ja_M_foresees_192 rfl rfl rfl (by decide) ⟨rfl, by decide⟩ ?_
          exact (k7 h2 h4 h5 h6)
        · intro h7
          refine q_aload_n (pc' := 10) ja_M_sectionOf_9 rfl rfl ?_
          refine q_getf (pc' := 13) (v := .int (s 146 53)) ja_M_sectionOf_10 rfl (by decide) ⟨rfl, by decide⟩ rfl ?_
          refine q_goto ja_M_sectionOf_13 ?_
          refine q_iret ja_M_sectionOf_22 rfl rfl ?_
          show q_W _ _ _ _ 187 [some (.ref 146), some (.int x1), some (.int x2), some (.int x3), some (.int x4), some (.int 1), o6, o7] [.int (s 146 53)] s
          refine q_istore (pc' := 189) (ls' := [some (.ref 146), some (.int x1), some (.int x2), some (.int x3), some (.int x4), some (.int 1), some (.int (s 146 53)), o7]) ja_M_foresees_187 rfl ⟨Nat.le_of_ble_eq_true rfl, rfl⟩ rfl ?_
          refine q_aload_n (pc' := 190) ja_M_foresees_189 rfl rfl ?_
          refine q_iload (pc' := 192) ja_M_foresees_190 rfl rfl ?_
          refine q_virt (pc' := 195) (c := 146) (as := [.int x4]) (r := []) ja_M_foresees_192 rfl rfl rfl (by decide) ⟨rfl, by decide⟩ ?_
          exact (k8 h2 h4 h5 h7)
      · intro h8
        refine q_aload_n (pc' := 21) ja_M_isDoable_20 rfl rfl ?_
        refine q_getf (pc' := 24) (v := .int (s 146 53)) ja_M_isDoable_21 rfl (by decide) ⟨rfl, by decide⟩ rfl ?_
        refine q_bipush (pc' := 26) ja_M_isDoable_24 rfl 10 (by decide) ?_
        refine q_ic_ge (pc' := 29) ja_M_isDoable_26 rfl ?_ ?_
        · intro h9
          refine q_iconst (pc' := 34) ja_M_isDoable_33 rfl 0 (by decide) ?_
          refine q_iret ja_M_isDoable_34 rfl (by decide) ?_
          show q_W _ _ _ _ 178 [some (.ref 146), some (.int x1), some (.int x2), some (.int x3), some (.int x4), some (.int 1), o6, o7] [.int 0] s
          refine q_if_eq (pc' := 181) ja_M_foresees_178 rfl (fun _ => ?_) (fun h => absurd ((by decide : (0 : Int32) = 0)) h)
          refine q_iinc (pc' := 242) (ls' := [some (.ref 146), some (.int x1), some (.int x2), some (.int (x3 + 1)), some (.int x4), some (.int 1), o6, o7]) ja_M_foresees_239 rfl rfl (x3 + 1) rfl ⟨Nat.le_of_ble_eq_true rfl, rfl⟩ rfl ?_
          refine q_goto ja_M_foresees_242 ?_
          exact (k9 h2 h4 h8 h9)
        · intro h10
          refine q_iconst (pc' := 30) ja_M_isDoable_29 rfl 1 (by decide) ?_
          refine q_goto ja_M_isDoable_30 ?_
          refine q_iret ja_M_isDoable_34 rfl (by decide) ?_
          show q_W _ _ _ _ 178 [some (.ref 146), some (.int x1), some (.int x2), some (.int x3), some (.int x4), some (.int 1), o6, o7] [.int 1] s
          refine q_if_eq (pc' := 181) ja_M_foresees_178 rfl (fun h => absurd h ((by decide : ¬ (1 : Int32) = 0))) (fun _ => ?_)
          refine q_aload_n (pc' := 182) ja_M_foresees_181 rfl rfl ?_
          refine q_iload (pc' := 184) ja_M_foresees_182 rfl rfl ?_
          refine q_virt (pc' := 187) (c := 146) (as := [.int x4]) (r := []) ja_M_foresees_184 rfl rfl rfl (by decide) ⟨rfl, by decide⟩ ?_
          refine q_in (M := jm_M_sectionOf) rfl (Nat.le_of_ble_eq_true rfl) (ls := [some (.ref 146), some (.int x4)]) rfl ?_
          refine q_aload_n (pc' := 1) ja_M_sectionOf_0 rfl rfl ?_
          refine q_getf (pc' := 4) (v := .ref 161) ja_M_sectionOf_1 rfl (by decide) ⟨rfl, by decide⟩ rfl ?_
          refine q_iload_n (pc' := 5) ja_M_sectionOf_4 rfl rfl ?_
          refine q_bald (pc' := 6) (v := .int (s 161 x4.toNatClampNeg)) ja_M_sectionOf_5 rfl (by decide) (l := 13) rfl (k10 h2 h4 h8 h10) rfl ?_
          refine q_if_eq (pc' := 9) ja_M_sectionOf_6 rfl ?_ ?_
          · intro h11
            refine q_aload_n (pc' := 17) ja_M_sectionOf_16 rfl rfl ?_
            refine q_getf (pc' := 20) (v := .ref 159) ja_M_sectionOf_17 rfl (by decide) ⟨rfl, by decide⟩ rfl ?_
            refine q_iload_n (pc' := 21) ja_M_sectionOf_20 rfl rfl ?_
            refine q_iald (pc' := 22) (v := .int (s 159 x4.toNatClampNeg)) ja_M_sectionOf_21 rfl (by decide) (l := 13) rfl (k11 h2 h4 h8 h10 h11) rfl ?_
            refine q_iret ja_M_sectionOf_22 rfl rfl ?_
            show q_W _ _ _ _ 187 [some (.ref 146), some (.int x1), some (.int x2), some (.int x3), some (.int x4), some (.int 1), o6, o7] [.int (s 159 x4.toNatClampNeg)] s
            refine q_istore (pc' := 189) (ls' := [some (.ref 146), some (.int x1), some (.int x2), some (.int x3), some (.int x4), some (.int 1), some (.int (s 159 x4.toNatClampNeg)), o7]) ja_M_foresees_187 rfl ⟨Nat.le_of_ble_eq_true rfl, rfl⟩ rfl ?_
            refine q_aload_n (pc' := 190) ja_M_foresees_189 rfl rfl ?_
            refine q_iload (pc' := 192) ja_M_foresees_190 rfl rfl ?_
            refine q_virt (pc' := 195) (c := 146) (as := [.int x4]) (r := []) ja_M_foresees_192 rfl rfl rfl (by decide) ⟨rfl, by decide⟩ ?_
            exact (k12 h2 h4 h8 h10 h11)
          · intro h12
            refine q_aload_n (pc' := 10) ja_M_sectionOf_9 rfl rfl ?_
            refine q_getf (pc' := 13) (v := .int (s 146 53)) ja_M_sectionOf_10 rfl (by decide) ⟨rfl, by decide⟩ rfl ?_
            refine q_goto ja_M_sectionOf_13 ?_
            refine q_iret ja_M_sectionOf_22 rfl rfl ?_
            show q_W _ _ _ _ 187 [some (.ref 146), some (.int x1), some (.int x2), some (.int x3), some (.int x4), some (.int 1), o6, o7] [.int (s 146 53)] s
            refine q_istore (pc' := 189) (ls' := [some (.ref 146), some (.int x1), some (.int x2), some (.int x3), some (.int x4), some (.int 1), some (.int (s 146 53)), o7]) ja_M_foresees_187 rfl ⟨Nat.le_of_ble_eq_true rfl, rfl⟩ rfl ?_
            refine q_aload_n (pc' := 190) ja_M_foresees_189 rfl rfl ?_
            refine q_iload (pc' := 192) ja_M_foresees_190 rfl rfl ?_
            refine q_virt (pc' := 195) (c := 146) (as := [.int x4]) (r := []) ja_M_foresees_192 rfl rfl rfl (by decide) ⟨rfl, by decide⟩ ?_
            exact (k13 h2 h4 h8 h10 h12)
set_option maxRecDepth 20000 in
theorem t_M_foresees_195 {G : jv_X} {d : Nat} {B : Option Value → jg_H → Prop} {s : jg_H} (x1 : Int32) (x2 : Int32) (x3 : Int32) (x4 : Int32) (x5 : Int32) (x6 : Int32) {o7 : Option Value} (ho7 : f_n o7 = true)
    (k1 : q_W G (d + 2) jm_M_foresees B 199 [some (.ref 146), some (.int x1), some (.int x2), some (.int x3), some (.int x4), some (.int x5), some (.int x6), some (.int 8)] [] s) :
    q_W G (d + 2) jm_M_foresees B 195 [some (.ref 146), some (.int x1), some (.int x2), some (.int x3), some (.int x4), some (.int x5), some (.int x6), o7] [] s := by
  refine q_bipush (pc' := 197) ja_M_foresees_195 rfl 8 (by decide) ?_
  refine q_istore (pc' := 199) (ls' := [some (.ref 146), some (.int x1), some (.int x2), some (.int x3), some (.int x4), some (.int x5), some (.int x6), some (.int 8)]) ja_M_foresees_197 rfl ⟨Nat.le_of_ble_eq_true rfl, rfl⟩ rfl ?_
  exact k1
set_option maxRecDepth 20000 in
theorem t_M_foresees_199 {G : jv_X} {d : Nat} {B : Option Value → jg_H → Prop} {s : jg_H} (x1 : Int32) (x2 : Int32) (x3 : Int32) (x4 : Int32) (x5 : Int32) (x6 : Int32) (x7 : Int32)
    (k1 : ¬ x7 < (8 + (s 146 19)) → q_W G (d + 2) jm_M_foresees B 103 [some (.ref 146), some (.int x1), some (.int x2), some (.int (x3 + 1)), some (.int x4), some (.int x5), some (.int x6), some (.int x7)] [] s)
    (k2 : x7 < (8 + (s 146 19)) → jv_in x4 13 = true)
    (k3 : x7 < (8 + (s 146 19)) → jv_in x4 13 = true)
    (k4 : x7 < (8 + (s 146 19)) → jv_in x7 13 = true)
    (k5 : x7 < (8 + (s 146 19)) → (s 157 x7.toNatClampNeg) < 1 → q_W G (d + 2) jm_M_foresees B 199 [some (.ref 146), some (.int x1), some (.int x2), some (.int x3), some (.int x4), some (.int x5), some (.int x6), some (.int (x7 + 1))] [] s)
    (k6 : x7 < (8 + (s 146 19)) → ¬ (s 157 x7.toNatClampNeg) < 1 → ¬ (s 157 x7.toNatClampNeg) ≤ 3 → q_W G (d + 2) jm_M_foresees B 199 [some (.ref 146), some (.int x1), some (.int x2), some (.int x3), some (.int x4), some (.int x5), some (.int x6), some (.int (x7 + 1))] [] s)
    (k7 : x7 < (8 + (s 146 19)) → ¬ (s 157 x7.toNatClampNeg) < 1 → (s 157 x7.toNatClampNeg) ≤ 3 → jv_in x7 13 = true)
    (k8 : x7 < (8 + (s 146 19)) → ¬ (s 157 x7.toNatClampNeg) < 1 → (s 157 x7.toNatClampNeg) ≤ 3 → ¬ (s 161 x7.toNatClampNeg) = 0 → q_W G (d + 2) jm_M_foresees B 199 [some (.ref 146), some (.int x1), some (.int x2), some (.int x3), some (.int x4), some (.int x5), some (.int x6), some (.int (x7 + 1))] [] s)
    (k9 : x7 < (8 + (s 146 19)) → ¬ (s 157 x7.toNatClampNeg) < 1 → (s 157 x7.toNatClampNeg) ≤ 3 → (s 161 x7.toNatClampNeg) = 0 → jv_in x7 13 = true)
    (k10 : x7 < (8 + (s 146 19)) → ¬ (s 157 x7.toNatClampNeg) < 1 → (s 157 x7.toNatClampNeg) ≤ 3 → (s 161 x7.toNatClampNeg) = 0 → (s 159 x7.toNatClampNeg) = (-1) → q_W G (d + 2) jm_M_foresees B 199 [some (.ref 146), some (.int x1), some (.int x2), some (.int x3), some (.int x4), some (.int x5), some (.int x6), some (.int (x7 + 1))] [] s)
    (k11 : x7 < (8 + (s 146 19)) → ¬ (s 157 x7.toNatClampNeg) < 1 → (s 157 x7.toNatClampNeg) ≤ 3 → (s 161 x7.toNatClampNeg) = 0 → ¬ (s 159 x7.toNatClampNeg) = (-1) → (s 157 x4.toNatClampNeg) = 3 → q_W G (d + 2) jm_M_foresees B 199 [some (.ref 146), some (.int x1), some (.int x2), some (.int x3), some (.int x4), some (.int x5), some (.int x6), some (.int (x7 + 1))] [] s)
    (k12 : x7 < (8 + (s 146 19)) → ¬ (s 157 x7.toNatClampNeg) < 1 → (s 157 x7.toNatClampNeg) ≤ 3 → (s 161 x7.toNatClampNeg) = 0 → ¬ (s 159 x7.toNatClampNeg) = (-1) → ¬ (s 157 x4.toNatClampNeg) = 3 → (s 161 x4.toNatClampNeg) = 0 → ¬ (s 157 x4.toNatClampNeg) = 1 → jv_in x7 13 = true)
    (k13 : x7 < (8 + (s 146 19)) → ¬ (s 157 x7.toNatClampNeg) < 1 → (s 157 x7.toNatClampNeg) ≤ 3 → (s 161 x7.toNatClampNeg) = 0 → ¬ (s 159 x7.toNatClampNeg) = (-1) → ¬ (s 157 x4.toNatClampNeg) = 3 → (s 161 x4.toNatClampNeg) = 0 → ¬ (s 157 x4.toNatClampNeg) = 1 → jv_in x7 13 = true)
    (k14 : x7 < (8 + (s 146 19)) → ¬ (s 157 x7.toNatClampNeg) < 1 → (s 157 x7.toNatClampNeg) ≤ 3 → (s 161 x7.toNatClampNeg) = 0 → ¬ (s 159 x7.toNatClampNeg) = (-1) → ¬ (s 157 x4.toNatClampNeg) = 3 → (s 161 x4.toNatClampNeg) = 0 → ¬ (s 157 x4.toNatClampNeg) = 1 → (s 159 x7.toNatClampNeg) < x6 → jv_in x7 13 = true)
    (k15 : x7 < (8 + (s 146 19)) → ¬ (s 157 x7.toNatClampNeg) < 1 → (s 157 x7.toNatClampNeg) ≤ 3 → (s 161 x7.toNatClampNeg) = 0 → ¬ (s 159 x7.toNatClampNeg) = (-1) → ¬ (s 157 x4.toNatClampNeg) = 3 → (s 161 x4.toNatClampNeg) = 0 → ¬ (s 157 x4.toNatClampNeg) = 1 → (s 159 x7.toNatClampNeg) < x6 → ∀ s1 : jg_H, s1 = jg_up s 159 x7.toNatClampNeg ((s 159 x7.toNatClampNeg) + 0) → q_W G (d + 2) jm_M_foresees B 199 [some (.ref 146), some (.int x1), some (.int x2), some (.int x3), some (.int x4), some (.int x5), some (.int x6), some (.int (x7 + 1))] [] s1)
    (k16 : x7 < (8 + (s 146 19)) → ¬ (s 157 x7.toNatClampNeg) < 1 → (s 157 x7.toNatClampNeg) ≤ 3 → (s 161 x7.toNatClampNeg) = 0 → ¬ (s 159 x7.toNatClampNeg) = (-1) → ¬ (s 157 x4.toNatClampNeg) = 3 → (s 161 x4.toNatClampNeg) = 0 → ¬ (s 157 x4.toNatClampNeg) = 1 → ¬ (s 159 x7.toNatClampNeg) < x6 → jv_in x7 13 = true)
    (k17 : x7 < (8 + (s 146 19)) → ¬ (s 157 x7.toNatClampNeg) < 1 → (s 157 x7.toNatClampNeg) ≤ 3 → (s 161 x7.toNatClampNeg) = 0 → ¬ (s 159 x7.toNatClampNeg) = (-1) → ¬ (s 157 x4.toNatClampNeg) = 3 → (s 161 x4.toNatClampNeg) = 0 → ¬ (s 157 x4.toNatClampNeg) = 1 → ¬ (s 159 x7.toNatClampNeg) < x6 → ∀ s2 : jg_H, s2 = jg_up s 159 x7.toNatClampNeg ((s 159 x7.toNatClampNeg) + 1) → q_W G (d + 2) jm_M_foresees B 199 [some (.ref 146), some (.int x1), some (.int x2), some (.int x3), some (.int x4), some (.int x5), some (.int x6), some (.int (x7 + 1))] [] s2)
    (k18 : x7 < (8 + (s 146 19)) → ¬ (s 157 x7.toNatClampNeg) < 1 → (s 157 x7.toNatClampNeg) ≤ 3 → (s 161 x7.toNatClampNeg) = 0 → ¬ (s 159 x7.toNatClampNeg) = (-1) → ¬ (s 157 x4.toNatClampNeg) = 3 → (s 161 x4.toNatClampNeg) = 0 → (s 157 x4.toNatClampNeg) = 1 → jv_in x7 13 = true)
    (k19 : x7 < (8 + (s 146 19)) → ¬ (s 157 x7.toNatClampNeg) < 1 → (s 157 x7.toNatClampNeg) ≤ 3 → (s 161 x7.toNatClampNeg) = 0 → ¬ (s 159 x7.toNatClampNeg) = (-1) → ¬ (s 157 x4.toNatClampNeg) = 3 → (s 161 x4.toNatClampNeg) = 0 → (s 157 x4.toNatClampNeg) = 1 → ¬ (s 159 x7.toNatClampNeg) = x6 → jv_in x7 13 = true)
    (k20 : x7 < (8 + (s 146 19)) → ¬ (s 157 x7.toNatClampNeg) < 1 → (s 157 x7.toNatClampNeg) ≤ 3 → (s 161 x7.toNatClampNeg) = 0 → ¬ (s 159 x7.toNatClampNeg) = (-1) → ¬ (s 157 x4.toNatClampNeg) = 3 → (s 161 x4.toNatClampNeg) = 0 → (s 157 x4.toNatClampNeg) = 1 → ¬ (s 159 x7.toNatClampNeg) = x6 → (s 159 x7.toNatClampNeg) ≤ x6 → jv_in x7 13 = true)
    (k21 : x7 < (8 + (s 146 19)) → ¬ (s 157 x7.toNatClampNeg) < 1 → (s 157 x7.toNatClampNeg) ≤ 3 → (s 161 x7.toNatClampNeg) = 0 → ¬ (s 159 x7.toNatClampNeg) = (-1) → ¬ (s 157 x4.toNatClampNeg) = 3 → (s 161 x4.toNatClampNeg) = 0 → (s 157 x4.toNatClampNeg) = 1 → ¬ (s 159 x7.toNatClampNeg) = x6 → (s 159 x7.toNatClampNeg) ≤ x6 → jv_in x7 13 = true)
    (k22 : x7 < (8 + (s 146 19)) → ¬ (s 157 x7.toNatClampNeg) < 1 → (s 157 x7.toNatClampNeg) ≤ 3 → (s 161 x7.toNatClampNeg) = 0 → ¬ (s 159 x7.toNatClampNeg) = (-1) → ¬ (s 157 x4.toNatClampNeg) = 3 → (s 161 x4.toNatClampNeg) = 0 → (s 157 x4.toNatClampNeg) = 1 → ¬ (s 159 x7.toNatClampNeg) = x6 → (s 159 x7.toNatClampNeg) ≤ x6 → ∀ s3 : jg_H, s3 = jg_up s 159 x7.toNatClampNeg (s 159 x7.toNatClampNeg) → q_W G (d + 2) jm_M_foresees B 199 [some (.ref 146), some (.int x1), some (.int x2), some (.int x3), some (.int x4), some (.int x5), some (.int x6), some (.int (x7 + 1))] [] s3)
    (k23 : x7 < (8 + (s 146 19)) → ¬ (s 157 x7.toNatClampNeg) < 1 → (s 157 x7.toNatClampNeg) ≤ 3 → (s 161 x7.toNatClampNeg) = 0 → ¬ (s 159 x7.toNatClampNeg) = (-1) → ¬ (s 157 x4.toNatClampNeg) = 3 → (s 161 x4.toNatClampNeg) = 0 → (s 157 x4.toNatClampNeg) = 1 → ¬ (s 159 x7.toNatClampNeg) = x6 → ¬ (s 159 x7.toNatClampNeg) ≤ x6 → jv_in x7 13 = true)
    (k24 : x7 < (8 + (s 146 19)) → ¬ (s 157 x7.toNatClampNeg) < 1 → (s 157 x7.toNatClampNeg) ≤ 3 → (s 161 x7.toNatClampNeg) = 0 → ¬ (s 159 x7.toNatClampNeg) = (-1) → ¬ (s 157 x4.toNatClampNeg) = 3 → (s 161 x4.toNatClampNeg) = 0 → (s 157 x4.toNatClampNeg) = 1 → ¬ (s 159 x7.toNatClampNeg) = x6 → ¬ (s 159 x7.toNatClampNeg) ≤ x6 → jv_in x7 13 = true)
    (k25 : x7 < (8 + (s 146 19)) → ¬ (s 157 x7.toNatClampNeg) < 1 → (s 157 x7.toNatClampNeg) ≤ 3 → (s 161 x7.toNatClampNeg) = 0 → ¬ (s 159 x7.toNatClampNeg) = (-1) → ¬ (s 157 x4.toNatClampNeg) = 3 → (s 161 x4.toNatClampNeg) = 0 → (s 157 x4.toNatClampNeg) = 1 → ¬ (s 159 x7.toNatClampNeg) = x6 → ¬ (s 159 x7.toNatClampNeg) ≤ x6 → ∀ s4 : jg_H, s4 = jg_up s 159 x7.toNatClampNeg ((s 159 x7.toNatClampNeg) - 1) → q_W G (d + 2) jm_M_foresees B 199 [some (.ref 146), some (.int x1), some (.int x2), some (.int x3), some (.int x4), some (.int x5), some (.int x6), some (.int (x7 + 1))] [] s4)
    (k26 : x7 < (8 + (s 146 19)) → ¬ (s 157 x7.toNatClampNeg) < 1 → (s 157 x7.toNatClampNeg) ≤ 3 → (s 161 x7.toNatClampNeg) = 0 → ¬ (s 159 x7.toNatClampNeg) = (-1) → ¬ (s 157 x4.toNatClampNeg) = 3 → (s 161 x4.toNatClampNeg) = 0 → (s 157 x4.toNatClampNeg) = 1 → (s 159 x7.toNatClampNeg) = x6 → jv_in x7 13 = true)
    (k27 : x7 < (8 + (s 146 19)) → ¬ (s 157 x7.toNatClampNeg) < 1 → (s 157 x7.toNatClampNeg) ≤ 3 → (s 161 x7.toNatClampNeg) = 0 → ¬ (s 159 x7.toNatClampNeg) = (-1) → ¬ (s 157 x4.toNatClampNeg) = 3 → (s 161 x4.toNatClampNeg) = 0 → (s 157 x4.toNatClampNeg) = 1 → (s 159 x7.toNatClampNeg) = x6 → ∀ s5 : jg_H, s5 = jg_up s 159 x7.toNatClampNeg (-1) → q_W G (d + 2) jm_M_foresees B 199 [some (.ref 146), some (.int x1), some (.int x2), some (.int x3), some (.int x4), some (.int x5), some (.int x6), some (.int (x7 + 1))] [] s5)
    (k28 : x7 < (8 + (s 146 19)) → ¬ (s 157 x7.toNatClampNeg) < 1 → (s 157 x7.toNatClampNeg) ≤ 3 → (s 161 x7.toNatClampNeg) = 0 → ¬ (s 159 x7.toNatClampNeg) = (-1) → ¬ (s 157 x4.toNatClampNeg) = 3 → ¬ (s 161 x4.toNatClampNeg) = 0 → q_W G (d + 2) jm_M_foresees B 199 [some (.ref 146), some (.int x1), some (.int x2), some (.int x3), some (.int x4), some (.int x5), some (.int x6), some (.int (x7 + 1))] [] s) :
    q_W G (d + 2) jm_M_foresees B 199 [some (.ref 146), some (.int x1), some (.int x2), some (.int x3), some (.int x4), some (.int x5), some (.int x6), some (.int x7)] [] s := by
  refine q_iload (pc' := 201) ja_M_foresees_199 rfl rfl ?_
  refine q_bipush (pc' := 203) ja_M_foresees_201 rfl 8 (by decide) ?_
  refine q_aload_n (pc' := 204) ja_M_foresees_203 rfl rfl ?_
  refine q_getf (pc' := 207) (v := .int (s 146 19)) ja_M_foresees_204 rfl (by decide) ⟨rfl, by decide⟩ rfl ?_
  refine q_iadd (pc' := 208) ja_M_foresees_207 rfl ?_
  refine q_ic_ge (pc' := 211) ja_M_foresees_208 rfl ?_ ?_
  · intro h1
    refine q_iinc (pc' := 242) (ls' := [some (.ref 146), some (.int x1), some (.int x2), some (.int (x3 + 1)), some (.int x4), some (.int x5), some (.int x6), some (.int x7)]) ja_M_foresees_239 rfl rfl (x3 + 1) rfl ⟨Nat.le_of_ble_eq_true rfl, rfl⟩ rfl ?_
    refine q_goto ja_M_foresees_242 ?_
    exact (k1 h1)
  · intro h2
    refine q_aload_n (pc' := 212) ja_M_foresees_211 rfl rfl ?_
    refine q_iload (pc' := 214) ja_M_foresees_212 rfl rfl ?_
    refine q_aload_n (pc' := 215) ja_M_foresees_214 rfl rfl ?_
    refine q_getf (pc' := 218) (v := .ref 157) ja_M_foresees_215 rfl (by decide) ⟨rfl, by decide⟩ rfl ?_
    refine q_iload (pc' := 220) ja_M_foresees_218 rfl rfl ?_
    refine q_iald (pc' := 221) (v := .int (s 157 x4.toNatClampNeg)) ja_M_foresees_220 rfl (by decide) (l := 13) rfl (k2 h2) rfl ?_
    refine q_iload (pc' := 223) ja_M_foresees_221 rfl rfl ?_
    refine q_aload_n (pc' := 224) ja_M_foresees_223 rfl rfl ?_
    refine q_getf (pc' := 227) (v := .ref 161) ja_M_foresees_224 rfl (by decide) ⟨rfl, by decide⟩ rfl ?_
    refine q_iload (pc' := 229) ja_M_foresees_227 rfl rfl ?_
    refine q_bald (pc' := 230) (v := .int (s 161 x4.toNatClampNeg)) ja_M_foresees_229 rfl (by decide) (l := 13) rfl (k3 h2) rfl ?_
    refine q_virt (pc' := 233) (c := 146) (as := [.int x7, .int (s 157 x4.toNatClampNeg), .int x6, .int (s 161 x4.toNatClampNeg)]) (r := []) ja_M_foresees_230 rfl rfl rfl (by decide) ⟨rfl, by decide⟩ ?_
    refine q_in (M := jm_M_follows) rfl (Nat.le_of_ble_eq_true rfl) (ls := [some (.ref 146), some (.int x7), some (.int (s 157 x4.toNatClampNeg)), some (.int x6), some (.int (s 161 x4.toNatClampNeg)), none]) rfl ?_
    refine q_aload_n (pc' := 1) ja_M_follows_0 rfl rfl ?_
    refine q_getf (pc' := 4) (v := .ref 157) ja_M_follows_1 rfl (by decide) ⟨rfl, by decide⟩ rfl ?_
    refine q_iload_n (pc' := 5) ja_M_follows_4 rfl rfl ?_
    refine q_iald (pc' := 6) (v := .int (s 157 x7.toNatClampNeg)) ja_M_follows_5 rfl (by decide) (l := 13) rfl (k4 h2) rfl ?_
    refine q_iconst (pc' := 7) ja_M_follows_6 rfl 1 (by decide) ?_
    refine q_iconst (pc' := 8) ja_M_follows_7 rfl 3 (by decide) ?_
    refine q_stat (pc' := 11) (as := [.int (s 157 x7.toNatClampNeg), .int 1, .int 3]) (r := []) ja_M_follows_8 rfl (by decide) rfl rfl ?_
    refine q_in (M := jm_M_in) rfl (Nat.le_of_ble_eq_true rfl) (ls := [some (.int (s 157 x7.toNatClampNeg)), some (.int 1), some (.int 3)]) rfl ?_
    refine q_iload_n (pc' := 1) ja_M_in_0 rfl rfl ?_
    refine q_iload_n (pc' := 2) ja_M_in_1 rfl rfl ?_
    refine q_ic_lt (pc' := 5) ja_M_in_2 rfl ?_ ?_
    · intro h3
      refine q_iconst (pc' := 15) ja_M_in_14 rfl 0 (by decide) ?_
      refine q_iret ja_M_in_15 rfl (by decide) ?_
      show q_W _ _ _ _ 11 [some (.ref 146), some (.int x7), some (.int (s 157 x4.toNatClampNeg)), some (.int x6), some (.int (s 161 x4.toNatClampNeg)), none] [.int 0] s
      refine q_if_eq (pc' := 14) ja_M_follows_11 rfl (fun _ => ?_) (fun h => absurd ((by decide : (0 : Int32) = 0)) h)
      refine q_iconst (pc' := 38) ja_M_follows_37 rfl 0 (by decide) ?_
      refine q_istore (pc' := 40) (ls' := [some (.ref 146), some (.int x7), some (.int (s 157 x4.toNatClampNeg)), some (.int x6), some (.int (s 161 x4.toNatClampNeg)), some (.int 0)]) ja_M_follows_38 rfl ⟨Nat.le_of_ble_eq_true rfl, rfl⟩ rfl ?_
      refine q_iload (pc' := 42) ja_M_follows_40 rfl rfl ?_
      refine q_if_eq (pc' := 45) ja_M_follows_42 rfl (fun _ => ?_) (fun h => absurd ((by decide : (0 : Int32) = 0)) h)
      refine q_vret ja_M_follows_55 rfl ?_
      show q_W _ _ _ _ 233 [some (.ref 146), some (.int x1), some (.int x2), some (.int x3), some (.int x4), some (.int x5), some (.int x6), some (.int x7)] [] s
      refine q_iinc (pc' := 236) (ls' := [some (.ref 146), some (.int x1), some (.int x2), some (.int x3), some (.int x4), some (.int x5), some (.int x6), some (.int (x7 + 1))]) ja_M_foresees_233 rfl rfl (x7 + 1) rfl ⟨Nat.le_of_ble_eq_true rfl, rfl⟩ rfl ?_
      refine q_goto ja_M_foresees_236 ?_
      exact (k5 h2 h3)
    · intro h4
      refine q_iload_n (pc' := 6) ja_M_in_5 rfl rfl ?_
      refine q_iload_n (pc' := 7) ja_M_in_6 rfl rfl ?_
      refine q_ic_gt (pc' := 10) ja_M_in_7 rfl ?_ ?_
      · intro h5
        refine q_iconst (pc' := 15) ja_M_in_14 rfl 0 (by decide) ?_
        refine q_iret ja_M_in_15 rfl (by decide) ?_
        show q_W _ _ _ _ 11 [some (.ref 146), some (.int x7), some (.int (s 157 x4.toNatClampNeg)), some (.int x6), some (.int (s 161 x4.toNatClampNeg)), none] [.int 0] s
        refine q_if_eq (pc' := 14) ja_M_follows_11 rfl (fun _ => ?_) (fun h => absurd ((by decide : (0 : Int32) = 0)) h)
        refine q_iconst (pc' := 38) ja_M_follows_37 rfl 0 (by decide) ?_
        refine q_istore (pc' := 40) (ls' := [some (.ref 146), some (.int x7), some (.int (s 157 x4.toNatClampNeg)), some (.int x6), some (.int (s 161 x4.toNatClampNeg)), some (.int 0)]) ja_M_follows_38 rfl ⟨Nat.le_of_ble_eq_true rfl, rfl⟩ rfl ?_
        refine q_iload (pc' := 42) ja_M_follows_40 rfl rfl ?_
        refine q_if_eq (pc' := 45) ja_M_follows_42 rfl (fun _ => ?_) (fun h => absurd ((by decide : (0 : Int32) = 0)) h)
        refine q_vret ja_M_follows_55 rfl ?_
        show q_W _ _ _ _ 233 [some (.ref 146), some (.int x1), some (.int x2), some (.int x3), some (.int x4), some (.int x5), some (.int x6), some (.int x7)] [] s
        refine q_iinc (pc' := 236) (ls' := [some (.ref 146), some (.int x1), some (.int x2), some (.int x3), some (.int x4), some (.int x5), some (.int x6), some (.int (x7 + 1))]) ja_M_foresees_233 rfl rfl (x7 + 1) rfl ⟨Nat.le_of_ble_eq_true rfl, rfl⟩ rfl ?_
        refine q_goto ja_M_foresees_236 ?_
        exact (k6 h2 h4 h5)
      · intro h6
        refine q_iconst (pc' := 11) ja_M_in_10 rfl 1 (by decide) ?_
        refine q_goto ja_M_in_11 ?_
        refine q_iret ja_M_in_15 rfl (by decide) ?_
        show q_W _ _ _ _ 11 [some (.ref 146), some (.int x7), some (.int (s 157 x4.toNatClampNeg)), some (.int x6), some (.int (s 161 x4.toNatClampNeg)), none] [.int 1] s
        refine q_if_eq (pc' := 14) ja_M_follows_11 rfl (fun h => absurd h ((by decide : ¬ (1 : Int32) = 0))) (fun _ => ?_)
        refine q_aload_n (pc' := 15) ja_M_follows_14 rfl rfl ?_
        refine q_getf (pc' := 18) (v := .ref 161) ja_M_follows_15 rfl (by decide) ⟨rfl, by decide⟩ rfl ?_
        refine q_iload_n (pc' := 19) ja_M_follows_18 rfl rfl ?_
        refine q_bald (pc' := 20) (v := .int (s 161 x7.toNatClampNeg)) ja_M_follows_19 rfl (by decide) (l := 13) rfl (k7 h2 h4 h6) rfl ?_
        refine q_if_ne (pc' := 23) ja_M_follows_20 rfl ?_ ?_
        · intro h7
          refine q_iconst (pc' := 38) ja_M_follows_37 rfl 0 (by decide) ?_
          refine q_istore (pc' := 40) (ls' := [some (.ref 146), some (.int x7), some (.int (s 157 x4.toNatClampNeg)), some (.int x6), some (.int (s 161 x4.toNatClampNeg)), some (.int 0)]) ja_M_follows_38 rfl ⟨Nat.le_of_ble_eq_true rfl, rfl⟩ rfl ?_
          refine q_iload (pc' := 42) ja_M_follows_40 rfl rfl ?_
          refine q_if_eq (pc' := 45) ja_M_follows_42 rfl (fun _ => ?_) (fun h => absurd ((by decide : (0 : Int32) = 0)) h)
          refine q_vret ja_M_follows_55 rfl ?_
          show q_W _ _ _ _ 233 [some (.ref 146), some (.int x1), some (.int x2), some (.int x3), some (.int x4), some (.int x5), some (.int x6), some (.int x7)] [] s
          refine q_iinc (pc' := 236) (ls' := [some (.ref 146), some (.int x1), some (.int x2), some (.int x3), some (.int x4), some (.int x5), some (.int x6), some (.int (x7 + 1))]) ja_M_foresees_233 rfl rfl (x7 + 1) rfl ⟨Nat.le_of_ble_eq_true rfl, rfl⟩ rfl ?_
          refine q_goto ja_M_foresees_236 ?_
          exact (k8 h2 h4 h6 h7)
        · intro h8
          refine q_aload_n (pc' := 24) ja_M_follows_23 rfl rfl ?_
          refine q_getf (pc' := 27) (v := .ref 159) ja_M_follows_24 rfl (by decide) ⟨rfl, by decide⟩ rfl ?_
          refine q_iload_n (pc' := 28) ja_M_follows_27 rfl rfl ?_
          refine q_iald (pc' := 29) (v := .int (s 159 x7.toNatClampNeg)) ja_M_follows_28 rfl (by decide) (l := 13) rfl (k9 h2 h4 h6 h8) rfl ?_
          refine q_iconst (pc' := 30) ja_M_follows_29 rfl (-1) (by decide) ?_
          refine q_ic_eq (pc' := 33) ja_M_follows_30 rfl ?_ ?_
          · intro h9
            refine q_iconst (pc' := 38) ja_M_follows_37 rfl 0 (by decide) ?_
            refine q_istore (pc' := 40) (ls' := [some (.ref 146), some (.int x7), some (.int (s 157 x4.toNatClampNeg)), some (.int x6), some (.int (s 161 x4.toNatClampNeg)), some (.int 0)]) ja_M_follows_38 rfl ⟨Nat.le_of_ble_eq_true rfl, rfl⟩ rfl ?_
            refine q_iload (pc' := 42) ja_M_follows_40 rfl rfl ?_
            refine q_if_eq (pc' := 45) ja_M_follows_42 rfl (fun _ => ?_) (fun h => absurd ((by decide : (0 : Int32) = 0)) h)
            refine q_vret ja_M_follows_55 rfl ?_
            show q_W _ _ _ _ 233 [some (.ref 146), some (.int x1), some (.int x2), some (.int x3), some (.int x4), some (.int x5), some (.int x6), some (.int x7)] [] s
            refine q_iinc (pc' := 236) (ls' := [some (.ref 146), some (.int x1), some (.int x2), some (.int x3), some (.int x4), some (.int x5), some (.int x6), some (.int (x7 + 1))]) ja_M_foresees_233 rfl rfl (x7 + 1) rfl ⟨Nat.le_of_ble_eq_true rfl, rfl⟩ rfl ?_
            refine q_goto ja_M_foresees_236 ?_
            exact (k10 h2 h4 h6 h8 h9)
          · intro h10
            refine q_iconst (pc' := 34) ja_M_follows_33 rfl 1 (by decide) ?_
            refine q_goto ja_M_follows_34 ?_
            refine q_istore (pc' := 40) (ls' := [some (.ref 146), some (.int x7), some (.int (s 157 x4.toNatClampNeg)), some (.int x6), some (.int (s 161 x4.toNatClampNeg)), some (.int 1)]) ja_M_follows_38 rfl ⟨Nat.le_of_ble_eq_true rfl, rfl⟩ rfl ?_
            refine q_iload (pc' := 42) ja_M_follows_40 rfl rfl ?_
            refine q_if_eq (pc' := 45) ja_M_follows_42 rfl (fun h => absurd h ((by decide : ¬ (1 : Int32) = 0))) (fun _ => ?_)
            refine q_iload_n (pc' := 46) ja_M_follows_45 rfl rfl ?_
            refine q_iconst (pc' := 47) ja_M_follows_46 rfl 3 (by decide) ?_
            refine q_ic_eq (pc' := 50) ja_M_follows_47 rfl ?_ ?_
            · intro h11
              refine q_vret ja_M_follows_55 rfl ?_
              show q_W _ _ _ _ 233 [some (.ref 146), some (.int x1), some (.int x2), some (.int x3), some (.int x4), some (.int x5), some (.int x6), some (.int x7)] [] s
              refine q_iinc (pc' := 236) (ls' := [some (.ref 146), some (.int x1), some (.int x2), some (.int x3), some (.int x4), some (.int x5), some (.int x6), some (.int (x7 + 1))]) ja_M_foresees_233 rfl rfl (x7 + 1) rfl ⟨Nat.le_of_ble_eq_true rfl, rfl⟩ rfl ?_
              refine q_goto ja_M_foresees_236 ?_
              exact (k11 h2 h4 h6 h8 h10 h11)
            · intro h12
              refine q_iload (pc' := 52) ja_M_follows_50 rfl rfl ?_
              refine q_if_eq (pc' := 55) ja_M_follows_52 rfl ?_ ?_
              · intro h13
                refine q_iload_n (pc' := 57) ja_M_follows_56 rfl rfl ?_
                refine q_iconst (pc' := 58) ja_M_follows_57 rfl 1 (by decide) ?_
                refine q_ic_ne (pc' := 61) ja_M_follows_58 rfl ?_ ?_
                · intro h14
                  refine q_aload_n (pc' := 112) ja_M_follows_111 rfl rfl ?_
                  refine q_getf (pc' := 115) (v := .ref 159) ja_M_follows_112 rfl (by decide) ⟨rfl, by decide⟩ rfl ?_
                  refine q_iload_n (pc' := 116) ja_M_follows_115 rfl rfl ?_
                  refine q_dup2 (pc' := 117) ja_M_follows_116 rfl ⟨rfl, rfl⟩ ?_
                  refine q_iald (pc' := 118) (v := .int (s 159 x7.toNatClampNeg)) ja_M_follows_117 rfl (by decide) (l := 13) rfl (k12 h2 h4 h6 h8 h10 h12 h13 h14) rfl ?_
                  refine q_aload_n (pc' := 119) ja_M_follows_118 rfl rfl ?_
                  refine q_getf (pc' := 122) (v := .ref 159) ja_M_follows_119 rfl (by decide) ⟨rfl, by decide⟩ rfl ?_
                  refine q_iload_n (pc' := 123) ja_M_follows_122 rfl rfl ?_
                  refine q_iald (pc' := 124) (v := .int (s 159 x7.toNatClampNeg)) ja_M_follows_123 rfl (by decide) (l := 13) rfl (k13 h2 h4 h6 h8 h10 h12 h13 h14) rfl ?_
                  refine q_iload_n (pc' := 125) ja_M_follows_124 rfl rfl ?_
                  refine q_ic_lt (pc' := 128) ja_M_follows_125 rfl ?_ ?_
                  · intro h15
                    refine q_iconst (pc' := 133) ja_M_follows_132 rfl 0 (by decide) ?_
                    refine q_iadd (pc' := 134) ja_M_follows_133 rfl ?_
                    refine q_iast (pc' := 135) ja_M_follows_134 rfl (by decide) (l := 13) rfl (k14 h2 h4 h6 h8 h10 h12 h13 h14 h15) ?_
                    intro s1 e1
                    refine q_vret ja_M_follows_135 rfl ?_
                    show q_W _ _ _ _ 233 [some (.ref 146), some (.int x1), some (.int x2), some (.int x3), some (.int x4), some (.int x5), some (.int x6), some (.int x7)] [] s1
                    refine q_iinc (pc' := 236) (ls' := [some (.ref 146), some (.int x1), some (.int x2), some (.int x3), some (.int x4), some (.int x5), some (.int x6), some (.int (x7 + 1))]) ja_M_foresees_233 rfl rfl (x7 + 1) rfl ⟨Nat.le_of_ble_eq_true rfl, rfl⟩ rfl ?_
                    refine q_goto ja_M_foresees_236 ?_
                    exact (k15 h2 h4 h6 h8 h10 h12 h13 h14 h15 s1 e1)
                  · intro h16
                    refine q_iconst (pc' := 129) ja_M_follows_128 rfl 1 (by decide) ?_
                    refine q_goto ja_M_follows_129 ?_
                    refine q_iadd (pc' := 134) ja_M_follows_133 rfl ?_
                    refine q_iast (pc' := 135) ja_M_follows_134 rfl (by decide) (l := 13) rfl (k16 h2 h4 h6 h8 h10 h12 h13 h14 h16) ?_
                    intro s2 e2
                    refine q_vret ja_M_follows_135 rfl ?_
                    show q_W _ _ _ _ 233 [some (.ref 146), some (.int x1), some (.int x2), some (.int x3), some (.int x4), some (.int x5), some (.int x6), some (.int x7)] [] s2
                    refine q_iinc (pc' := 236) (ls' := [some (.ref 146), some (.int x1), some (.int x2), some (.int x3), some (.int x4), some (.int x5), some (.int x6), some (.int (x7 + 1))]) ja_M_foresees_233 rfl rfl (x7 + 1) rfl ⟨Nat.le_of_ble_eq_true rfl, rfl⟩ rfl ?_
                    refine q_goto ja_M_foresees_236 ?_
                    exact (k17 h2 h4 h6 h8 h10 h12 h13 h14 h16 s2 e2)
                · intro h17
                  refine q_aload_n (pc' := 62) ja_M_follows_61 rfl rfl ?_
                  refine q_getf (pc' := 65) (v := .ref 159) ja_M_follows_62 rfl (by decide) ⟨rfl, by decide⟩ rfl ?_
                  refine q_iload_n (pc' := 66) ja_M_follows_65 rfl rfl ?_
                  refine q_aload_n (pc' := 67) ja_M_follows_66 rfl rfl ?_
                  refine q_getf (pc' := 70) (v := .ref 159) ja_M_follows_67 rfl (by decide) ⟨rfl, by decide⟩ rfl ?_
                  refine q_iload_n (pc' := 71) ja_M_follows_70 rfl rfl ?_
                  refine q_iald (pc' := 72) (v := .int (s 159 x7.toNatClampNeg)) ja_M_follows_71 rfl (by decide) (l := 13) rfl (k18 h2 h4 h6 h8 h10 h12 h13 h17) rfl ?_
                  refine q_iload_n (pc' := 73) ja_M_follows_72 rfl rfl ?_
                  refine q_ic_ne (pc' := 76) ja_M_follows_73 rfl ?_ ?_
                  · intro h18
                    refine q_aload_n (pc' := 81) ja_M_follows_80 rfl rfl ?_
                    refine q_getf (pc' := 84) (v := .ref 159) ja_M_follows_81 rfl (by decide) ⟨rfl, by decide⟩ rfl ?_
                    refine q_iload_n (pc' := 85) ja_M_follows_84 rfl rfl ?_
                    refine q_iald (pc' := 86) (v := .int (s 159 x7.toNatClampNeg)) ja_M_follows_85 rfl (by decide) (l := 13) rfl (k19 h2 h4 h6 h8 h10 h12 h13 h17 h18) rfl ?_
                    refine q_iload_n (pc' := 87) ja_M_follows_86 rfl rfl ?_
                    refine q_ic_le (pc' := 90) ja_M_follows_87 rfl ?_ ?_
                    · intro h19
                      refine q_aload_n (pc' := 102) ja_M_follows_101 rfl rfl ?_
                      refine q_getf (pc' := 105) (v := .ref 159) ja_M_follows_102 rfl (by decide) ⟨rfl, by decide⟩ rfl ?_
                      refine q_iload_n (pc' := 106) ja_M_follows_105 rfl rfl ?_
                      refine q_iald (pc' := 107) (v := .int (s 159 x7.toNatClampNeg)) ja_M_follows_106 rfl (by decide) (l := 13) rfl (k20 h2 h4 h6 h8 h10 h12 h13 h17 h18 h19) rfl ?_
                      refine q_iast (pc' := 108) ja_M_follows_107 rfl (by decide) (l := 13) rfl (k21 h2 h4 h6 h8 h10 h12 h13 h17 h18 h19) ?_
                      intro s3 e3
                      refine q_goto ja_M_follows_108 ?_
                      refine q_vret ja_M_follows_135 rfl ?_
                      show q_W _ _ _ _ 233 [some (.ref 146), some (.int x1), some (.int x2), some (.int x3), some (.int x4), some (.int x5), some (.int x6), some (.int x7)] [] s3
                      refine q_iinc (pc' := 236) (ls' := [some (.ref 146), some (.int x1), some (.int x2), some (.int x3), some (.int x4), some (.int x5), some (.int x6), some (.int (x7 + 1))]) ja_M_foresees_233 rfl rfl (x7 + 1) rfl ⟨Nat.le_of_ble_eq_true rfl, rfl⟩ rfl ?_
                      refine q_goto ja_M_foresees_236 ?_
                      exact (k22 h2 h4 h6 h8 h10 h12 h13 h17 h18 h19 s3 e3)
                    · intro h20
                      refine q_aload_n (pc' := 91) ja_M_follows_90 rfl rfl ?_
                      refine q_getf (pc' := 94) (v := .ref 159) ja_M_follows_91 rfl (by decide) ⟨rfl, by decide⟩ rfl ?_
                      refine q_iload_n (pc' := 95) ja_M_follows_94 rfl rfl ?_
                      refine q_iald (pc' := 96) (v := .int (s 159 x7.toNatClampNeg)) ja_M_follows_95 rfl (by decide) (l := 13) rfl (k23 h2 h4 h6 h8 h10 h12 h13 h17 h18 h20) rfl ?_
                      refine q_iconst (pc' := 97) ja_M_follows_96 rfl 1 (by decide) ?_
                      refine q_isub (pc' := 98) ja_M_follows_97 rfl ?_
                      refine q_goto ja_M_follows_98 ?_
                      refine q_iast (pc' := 108) ja_M_follows_107 rfl (by decide) (l := 13) rfl (k24 h2 h4 h6 h8 h10 h12 h13 h17 h18 h20) ?_
                      intro s4 e4
                      refine q_goto ja_M_follows_108 ?_
                      refine q_vret ja_M_follows_135 rfl ?_
                      show q_W _ _ _ _ 233 [some (.ref 146), some (.int x1), some (.int x2), some (.int x3), some (.int x4), some (.int x5), some (.int x6), some (.int x7)] [] s4
                      refine q_iinc (pc' := 236) (ls' := [some (.ref 146), some (.int x1), some (.int x2), some (.int x3), some (.int x4), some (.int x5), some (.int x6), some (.int (x7 + 1))]) ja_M_foresees_233 rfl rfl (x7 + 1) rfl ⟨Nat.le_of_ble_eq_true rfl, rfl⟩ rfl ?_
                      refine q_goto ja_M_foresees_236 ?_
                      exact (k25 h2 h4 h6 h8 h10 h12 h13 h17 h18 h20 s4 e4)
                  · intro h21
                    refine q_iconst (pc' := 77) ja_M_follows_76 rfl (-1) (by decide) ?_
                    refine q_goto ja_M_follows_77 ?_
                    refine q_iast (pc' := 108) ja_M_follows_107 rfl (by decide) (l := 13) rfl (k26 h2 h4 h6 h8 h10 h12 h13 h17 h21) ?_
                    intro s5 e5
                    refine q_goto ja_M_follows_108 ?_
                    refine q_vret ja_M_follows_135 rfl ?_
                    show q_W _ _ _ _ 233 [some (.ref 146), some (.int x1), some (.int x2), some (.int x3), some (.int x4), some (.int x5), some (.int x6), some (.int x7)] [] s5
                    refine q_iinc (pc' := 236) (ls' := [some (.ref 146), some (.int x1), some (.int x2), some (.int x3), some (.int x4), some (.int x5), some (.int x6), some (.int (x7 + 1))]) ja_M_foresees_233 rfl rfl (x7 + 1) rfl ⟨Nat.le_of_ble_eq_true rfl, rfl⟩ rfl ?_
                    refine q_goto ja_M_foresees_236 ?_
                    exact (k27 h2 h4 h6 h8 h10 h12 h13 h17 h21 s5 e5)
              · intro h22
                refine q_vret ja_M_follows_55 rfl ?_
                show q_W _ _ _ _ 233 [some (.ref 146), some (.int x1), some (.int x2), some (.int x3), some (.int x4), some (.int x5), some (.int x6), some (.int x7)] [] s
                refine q_iinc (pc' := 236) (ls' := [some (.ref 146), some (.int x1), some (.int x2), some (.int x3), some (.int x4), some (.int x5), some (.int x6), some (.int (x7 + 1))]) ja_M_foresees_233 rfl rfl (x7 + 1) rfl ⟨Nat.le_of_ble_eq_true rfl, rfl⟩ rfl ?_
                refine q_goto ja_M_foresees_236 ?_
                exact (k28 h2 h4 h6 h8 h10 h12 h22)
set_option maxRecDepth 20000 in
theorem t_M_gain {G : jv_X} {d : Nat} {B : Option Value → jg_H → Prop} {s : jg_H} (a1 : Int32) (a2 : Int32)
    (k1 : jv_in a1 13 = true)
    (k2 : (s 159 a1.toNatClampNeg) = (-1) → B (some (.int 0)) s)
    (k3 : ¬ (s 159 a1.toNatClampNeg) = (-1) → jv_in a1 13 = true)
    (k4 : ¬ (s 159 a1.toNatClampNeg) = (-1) → ¬ (s 157 a1.toNatClampNeg) = 2 → jv_in a1 13 = true)
    (k5 : ¬ (s 159 a1.toNatClampNeg) = (-1) → ¬ (s 157 a1.toNatClampNeg) = 2 → jv_in a1 13 = true)
    (k6 : ¬ (s 159 a1.toNatClampNeg) = (-1) → ¬ (s 157 a1.toNatClampNeg) = 2 → (s 161 a1.toNatClampNeg) = 0 → jv_in a1 13 = true)
    (k7 : ¬ (s 159 a1.toNatClampNeg) = (-1) → ¬ (s 157 a1.toNatClampNeg) = 2 → (s 161 a1.toNatClampNeg) = 0 → jv_in (s 159 a1.toNatClampNeg) 11 = true)
    (k8 : ¬ (s 159 a1.toNatClampNeg) = (-1) → ¬ (s 157 a1.toNatClampNeg) = 2 → (s 161 a1.toNatClampNeg) = 0 → jv_in ((61 * a2) + (s 171 (s 159 a1.toNatClampNeg).toNatClampNeg)) 915 = true)
    (k9 : ¬ (s 159 a1.toNatClampNeg) = (-1) → ¬ (s 157 a1.toNatClampNeg) = 2 → (s 161 a1.toNatClampNeg) = 0 → jv_in a1 13 = true)
    (k10 : ¬ (s 159 a1.toNatClampNeg) = (-1) → ¬ (s 157 a1.toNatClampNeg) = 2 → (s 161 a1.toNatClampNeg) = 0 → ¬ (s 157 a1.toNatClampNeg) = 1 → jv_in a1 13 = true)
    (k11 : ¬ (s 159 a1.toNatClampNeg) = (-1) → ¬ (s 157 a1.toNatClampNeg) = 2 → (s 161 a1.toNatClampNeg) = 0 → ¬ (s 157 a1.toNatClampNeg) = 1 → jv_in ((61 * a2) + (s 160 a1.toNatClampNeg)) 915 = true)
    (k12 : ¬ (s 159 a1.toNatClampNeg) = (-1) → ¬ (s 157 a1.toNatClampNeg) = 2 → (s 161 a1.toNatClampNeg) = 0 → ¬ (s 157 a1.toNatClampNeg) = 1 → B (some (.int ((s 148 ((61 * a2) + (s 160 a1.toNatClampNeg)).toNatClampNeg) - (s 148 ((61 * a2) + (s 171 (s 159 a1.toNatClampNeg).toNatClampNeg)).toNatClampNeg)))) s)
    (k13 : ¬ (s 159 a1.toNatClampNeg) = (-1) → ¬ (s 157 a1.toNatClampNeg) = 2 → (s 161 a1.toNatClampNeg) = 0 → (s 157 a1.toNatClampNeg) = 1 → B (some (.int (0 - (s 148 ((61 * a2) + (s 171 (s 159 a1.toNatClampNeg).toNatClampNeg)).toNatClampNeg)))) s)
    (k14 : ¬ (s 159 a1.toNatClampNeg) = (-1) → ¬ (s 157 a1.toNatClampNeg) = 2 → ¬ (s 161 a1.toNatClampNeg) = 0 → jv_in (s 146 53) 11 = true)
    (k15 : ¬ (s 159 a1.toNatClampNeg) = (-1) → ¬ (s 157 a1.toNatClampNeg) = 2 → ¬ (s 161 a1.toNatClampNeg) = 0 → jv_in ((61 * a2) + (s 171 (s 146 53).toNatClampNeg)) 915 = true)
    (k16 : ¬ (s 159 a1.toNatClampNeg) = (-1) → ¬ (s 157 a1.toNatClampNeg) = 2 → ¬ (s 161 a1.toNatClampNeg) = 0 → jv_in a1 13 = true)
    (k17 : ¬ (s 159 a1.toNatClampNeg) = (-1) → ¬ (s 157 a1.toNatClampNeg) = 2 → ¬ (s 161 a1.toNatClampNeg) = 0 → ¬ (s 157 a1.toNatClampNeg) = 1 → jv_in a1 13 = true)
    (k18 : ¬ (s 159 a1.toNatClampNeg) = (-1) → ¬ (s 157 a1.toNatClampNeg) = 2 → ¬ (s 161 a1.toNatClampNeg) = 0 → ¬ (s 157 a1.toNatClampNeg) = 1 → jv_in ((61 * a2) + (s 160 a1.toNatClampNeg)) 915 = true)
    (k19 : ¬ (s 159 a1.toNatClampNeg) = (-1) → ¬ (s 157 a1.toNatClampNeg) = 2 → ¬ (s 161 a1.toNatClampNeg) = 0 → ¬ (s 157 a1.toNatClampNeg) = 1 → B (some (.int ((s 148 ((61 * a2) + (s 160 a1.toNatClampNeg)).toNatClampNeg) - (s 148 ((61 * a2) + (s 171 (s 146 53).toNatClampNeg)).toNatClampNeg)))) s)
    (k20 : ¬ (s 159 a1.toNatClampNeg) = (-1) → ¬ (s 157 a1.toNatClampNeg) = 2 → ¬ (s 161 a1.toNatClampNeg) = 0 → (s 157 a1.toNatClampNeg) = 1 → B (some (.int (0 - (s 148 ((61 * a2) + (s 171 (s 146 53).toNatClampNeg)).toNatClampNeg)))) s)
    (k21 : ¬ (s 159 a1.toNatClampNeg) = (-1) → (s 157 a1.toNatClampNeg) = 2 → ¬ (s 146 53) < 10 → B (some (.int 0)) s)
    (k22 : ¬ (s 159 a1.toNatClampNeg) = (-1) → (s 157 a1.toNatClampNeg) = 2 → (s 146 53) < 10 → jv_in a1 13 = true)
    (k23 : ¬ (s 159 a1.toNatClampNeg) = (-1) → (s 157 a1.toNatClampNeg) = 2 → (s 146 53) < 10 → jv_in a1 13 = true)
    (k24 : ¬ (s 159 a1.toNatClampNeg) = (-1) → (s 157 a1.toNatClampNeg) = 2 → (s 146 53) < 10 → ¬ (s 157 a1.toNatClampNeg) = 1 → jv_in a1 13 = true)
    (k25 : ¬ (s 159 a1.toNatClampNeg) = (-1) → (s 157 a1.toNatClampNeg) = 2 → (s 146 53) < 10 → ¬ (s 157 a1.toNatClampNeg) = 1 → jv_in ((61 * a2) + (s 160 a1.toNatClampNeg)) 915 = true)
    (k26 : ¬ (s 159 a1.toNatClampNeg) = (-1) → (s 157 a1.toNatClampNeg) = 2 → (s 146 53) < 10 → ¬ (s 157 a1.toNatClampNeg) = 1 → B (some (.int ((s 148 ((61 * a2) + (s 160 a1.toNatClampNeg)).toNatClampNeg) - 0))) s)
    (k27 : ¬ (s 159 a1.toNatClampNeg) = (-1) → (s 157 a1.toNatClampNeg) = 2 → (s 146 53) < 10 → (s 157 a1.toNatClampNeg) = 1 → B (some (.int 0)) s) :
    q_P G (d + 2) 193 [.ref 146, .int a1, .int a2] s B := by
  refine q_in (M := jm_M_gain) rfl (Nat.le_of_ble_eq_true rfl) (ls := [some (.ref 146), some (.int a1), some (.int a2), none, none]) rfl ?_
  refine q_aload_n (pc' := 1) ja_M_gain_0 rfl rfl ?_
  refine q_iload_n (pc' := 2) ja_M_gain_1 rfl rfl ?_
  refine q_virt (pc' := 5) (c := 146) (as := [.int a1]) (r := []) ja_M_gain_2 rfl rfl rfl (by decide) ⟨rfl, by decide⟩ ?_
  refine q_in (M := jm_M_isDoable) rfl (Nat.le_of_ble_eq_true rfl) (ls := [some (.ref 146), some (.int a1)]) rfl ?_
  refine q_aload_n (pc' := 1) ja_M_isDoable_0 rfl rfl ?_
  refine q_getf (pc' := 4) (v := .ref 159) ja_M_isDoable_1 rfl (by decide) ⟨rfl, by decide⟩ rfl ?_
  refine q_iload_n (pc' := 5) ja_M_isDoable_4 rfl rfl ?_
  refine q_iald (pc' := 6) (v := .int (s 159 a1.toNatClampNeg)) ja_M_isDoable_5 rfl (by decide) (l := 13) rfl k1 rfl ?_
  refine q_iconst (pc' := 7) ja_M_isDoable_6 rfl (-1) (by decide) ?_
  refine q_ic_eq (pc' := 10) ja_M_isDoable_7 rfl ?_ ?_
  · intro h1
    refine q_iconst (pc' := 34) ja_M_isDoable_33 rfl 0 (by decide) ?_
    refine q_iret ja_M_isDoable_34 rfl (by decide) ?_
    show q_W _ _ _ _ 5 [some (.ref 146), some (.int a1), some (.int a2), none, none] [.int 0] s
    refine q_if_ne (pc' := 8) ja_M_gain_5 rfl (fun h => absurd ((by decide : (0 : Int32) = 0)) h) (fun _ => ?_)
    refine q_iconst (pc' := 9) ja_M_gain_8 rfl 0 (by decide) ?_
    exact q_iret ja_M_gain_9 rfl rfl (k2 h1)
  · intro h2
    refine q_aload_n (pc' := 11) ja_M_isDoable_10 rfl rfl ?_
    refine q_getf (pc' := 14) (v := .ref 157) ja_M_isDoable_11 rfl (by decide) ⟨rfl, by decide⟩ rfl ?_
    refine q_iload_n (pc' := 15) ja_M_isDoable_14 rfl rfl ?_
    refine q_iald (pc' := 16) (v := .int (s 157 a1.toNatClampNeg)) ja_M_isDoable_15 rfl (by decide) (l := 13) rfl (k3 h2) rfl ?_
    refine q_iconst (pc' := 17) ja_M_isDoable_16 rfl 2 (by decide) ?_
    refine q_ic_ne (pc' := 20) ja_M_isDoable_17 rfl ?_ ?_
    · intro h3
      refine q_iconst (pc' := 30) ja_M_isDoable_29 rfl 1 (by decide) ?_
      refine q_goto ja_M_isDoable_30 ?_
      refine q_iret ja_M_isDoable_34 rfl (by decide) ?_
      show q_W _ _ _ _ 5 [some (.ref 146), some (.int a1), some (.int a2), none, none] [.int 1] s
      refine q_if_ne (pc' := 8) ja_M_gain_5 rfl (fun _ => ?_) (fun h => absurd h ((by decide : ¬ (1 : Int32) = 0)))
      refine q_aload_n (pc' := 11) ja_M_gain_10 rfl rfl ?_
      refine q_getf (pc' := 14) (v := .ref 157) ja_M_gain_11 rfl (by decide) ⟨rfl, by decide⟩ rfl ?_
      refine q_iload_n (pc' := 15) ja_M_gain_14 rfl rfl ?_
      refine q_iald (pc' := 16) (v := .int (s 157 a1.toNatClampNeg)) ja_M_gain_15 rfl (by decide) (l := 13) rfl (k4 h2 h3) rfl ?_
      refine q_iconst (pc' := 17) ja_M_gain_16 rfl 2 (by decide) ?_
      refine q_ic_ne (pc' := 20) ja_M_gain_17 rfl (fun _ => ?_) (fun h => absurd h (h3))
      refine q_aload_n (pc' := 25) ja_M_gain_24 rfl rfl ?_
      refine q_getf (pc' := 28) (v := .ref 148) ja_M_gain_25 rfl (by decide) ⟨rfl, by decide⟩ rfl ?_
      refine q_bipush (pc' := 30) ja_M_gain_28 rfl 61 (by decide) ?_
      refine q_iload_n (pc' := 31) ja_M_gain_30 rfl rfl ?_
      refine q_imul (pc' := 32) ja_M_gain_31 rfl ?_
      refine q_aload_n (pc' := 33) ja_M_gain_32 rfl rfl ?_
      refine q_getf (pc' := 36) (v := .ref 171) ja_M_gain_33 rfl (by decide) ⟨rfl, by decide⟩ rfl ?_
      refine q_aload_n (pc' := 37) ja_M_gain_36 rfl rfl ?_
      refine q_iload_n (pc' := 38) ja_M_gain_37 rfl rfl ?_
      refine q_virt (pc' := 41) (c := 146) (as := [.int a1]) (r := [.ref 171, .int (61 * a2), .ref 148]) ja_M_gain_38 rfl rfl rfl (by decide) ⟨rfl, by decide⟩ ?_
      refine q_in (M := jm_M_sectionOf) rfl (Nat.le_of_ble_eq_true rfl) (ls := [some (.ref 146), some (.int a1)]) rfl ?_
      refine q_aload_n (pc' := 1) ja_M_sectionOf_0 rfl rfl ?_
      refine q_getf (pc' := 4) (v := .ref 161) ja_M_sectionOf_1 rfl (by decide) ⟨rfl, by decide⟩ rfl ?_
      refine q_iload_n (pc' := 5) ja_M_sectionOf_4 rfl rfl ?_
      refine q_bald (pc' := 6) (v := .int (s 161 a1.toNatClampNeg)) ja_M_sectionOf_5 rfl (by decide) (l := 13) rfl (k5 h2 h3) rfl ?_
      refine q_if_eq (pc' := 9) ja_M_sectionOf_6 rfl ?_ ?_
      · intro h4
        refine q_aload_n (pc' := 17) ja_M_sectionOf_16 rfl rfl ?_
        refine q_getf (pc' := 20) (v := .ref 159) ja_M_sectionOf_17 rfl (by decide) ⟨rfl, by decide⟩ rfl ?_
        refine q_iload_n (pc' := 21) ja_M_sectionOf_20 rfl rfl ?_
        refine q_iald (pc' := 22) (v := .int (s 159 a1.toNatClampNeg)) ja_M_sectionOf_21 rfl (by decide) (l := 13) rfl (k6 h2 h3 h4) rfl ?_
        refine q_iret ja_M_sectionOf_22 rfl rfl ?_
        show q_W _ _ _ _ 41 [some (.ref 146), some (.int a1), some (.int a2), none, none] [.int (s 159 a1.toNatClampNeg), .ref 171, .int (61 * a2), .ref 148] s
        refine q_iald (pc' := 42) (v := .int (s 171 (s 159 a1.toNatClampNeg).toNatClampNeg)) ja_M_gain_41 rfl (by decide) (l := 11) rfl (k7 h2 h3 h4) rfl ?_
        refine q_iadd (pc' := 43) ja_M_gain_42 rfl ?_
        refine q_iald (pc' := 44) (v := .int (s 148 ((61 * a2) + (s 171 (s 159 a1.toNatClampNeg).toNatClampNeg)).toNatClampNeg)) ja_M_gain_43 rfl (by decide) (l := 915) rfl (k8 h2 h3 h4) rfl ?_
        refine q_istore_n (pc' := 45) (ls' := [some (.ref 146), some (.int a1), some (.int a2), some (.int (s 148 ((61 * a2) + (s 171 (s 159 a1.toNatClampNeg).toNatClampNeg)).toNatClampNeg)), none]) ja_M_gain_44 rfl ⟨Nat.le_of_ble_eq_true rfl, rfl⟩ rfl ?_
        refine q_aload_n (pc' := 46) ja_M_gain_45 rfl rfl ?_
        refine q_getf (pc' := 49) (v := .ref 157) ja_M_gain_46 rfl (by decide) ⟨rfl, by decide⟩ rfl ?_
        refine q_iload_n (pc' := 50) ja_M_gain_49 rfl rfl ?_
        refine q_iald (pc' := 51) (v := .int (s 157 a1.toNatClampNeg)) ja_M_gain_50 rfl (by decide) (l := 13) rfl (k9 h2 h3 h4) rfl ?_
        refine q_iconst (pc' := 52) ja_M_gain_51 rfl 1 (by decide) ?_
        refine q_ic_ne (pc' := 55) ja_M_gain_52 rfl ?_ ?_
        · intro h5
          refine q_aload_n (pc' := 60) ja_M_gain_59 rfl rfl ?_
          refine q_getf (pc' := 63) (v := .ref 148) ja_M_gain_60 rfl (by decide) ⟨rfl, by decide⟩ rfl ?_
          refine q_bipush (pc' := 65) ja_M_gain_63 rfl 61 (by decide) ?_
          refine q_iload_n (pc' := 66) ja_M_gain_65 rfl rfl ?_
          refine q_imul (pc' := 67) ja_M_gain_66 rfl ?_
          refine q_aload_n (pc' := 68) ja_M_gain_67 rfl rfl ?_
          refine q_getf (pc' := 71) (v := .ref 160) ja_M_gain_68 rfl (by decide) ⟨rfl, by decide⟩ rfl ?_
          refine q_iload_n (pc' := 72) ja_M_gain_71 rfl rfl ?_
          refine q_iald (pc' := 73) (v := .int (s 160 a1.toNatClampNeg)) ja_M_gain_72 rfl (by decide) (l := 13) rfl (k10 h2 h3 h4 h5) rfl ?_
          refine q_iadd (pc' := 74) ja_M_gain_73 rfl ?_
          refine q_iald (pc' := 75) (v := .int (s 148 ((61 * a2) + (s 160 a1.toNatClampNeg)).toNatClampNeg)) ja_M_gain_74 rfl (by decide) (l := 915) rfl (k11 h2 h3 h4 h5) rfl ?_
          refine q_istore (pc' := 77) (ls' := [some (.ref 146), some (.int a1), some (.int a2), some (.int (s 148 ((61 * a2) + (s 171 (s 159 a1.toNatClampNeg).toNatClampNeg)).toNatClampNeg)), some (.int (s 148 ((61 * a2) + (s 160 a1.toNatClampNeg)).toNatClampNeg))]) ja_M_gain_75 rfl ⟨Nat.le_of_ble_eq_true rfl, rfl⟩ rfl ?_
          refine q_iload (pc' := 79) ja_M_gain_77 rfl rfl ?_
          refine q_iload_n (pc' := 80) ja_M_gain_79 rfl rfl ?_
          refine q_isub (pc' := 81) ja_M_gain_80 rfl ?_
          exact q_iret ja_M_gain_81 rfl rfl (k12 h2 h3 h4 h5)
        · intro h6
          refine q_iconst (pc' := 56) ja_M_gain_55 rfl 0 (by decide) ?_
          refine q_goto ja_M_gain_56 ?_
          refine q_istore (pc' := 77) (ls' := [some (.ref 146), some (.int a1), some (.int a2), some (.int (s 148 ((61 * a2) + (s 171 (s 159 a1.toNatClampNeg).toNatClampNeg)).toNatClampNeg)), some (.int 0)]) ja_M_gain_75 rfl ⟨Nat.le_of_ble_eq_true rfl, rfl⟩ rfl ?_
          refine q_iload (pc' := 79) ja_M_gain_77 rfl rfl ?_
          refine q_iload_n (pc' := 80) ja_M_gain_79 rfl rfl ?_
          refine q_isub (pc' := 81) ja_M_gain_80 rfl ?_
          exact q_iret ja_M_gain_81 rfl rfl (k13 h2 h3 h4 h6)
      · intro h7
        refine q_aload_n (pc' := 10) ja_M_sectionOf_9 rfl rfl ?_
        refine q_getf (pc' := 13) (v := .int (s 146 53)) ja_M_sectionOf_10 rfl (by decide) ⟨rfl, by decide⟩ rfl ?_
        refine q_goto ja_M_sectionOf_13 ?_
        refine q_iret ja_M_sectionOf_22 rfl rfl ?_
        show q_W _ _ _ _ 41 [some (.ref 146), some (.int a1), some (.int a2), none, none] [.int (s 146 53), .ref 171, .int (61 * a2), .ref 148] s
        refine q_iald (pc' := 42) (v := .int (s 171 (s 146 53).toNatClampNeg)) ja_M_gain_41 rfl (by decide) (l := 11) rfl (k14 h2 h3 h7) rfl ?_
        refine q_iadd (pc' := 43) ja_M_gain_42 rfl ?_
        refine q_iald (pc' := 44) (v := .int (s 148 ((61 * a2) + (s 171 (s 146 53).toNatClampNeg)).toNatClampNeg)) ja_M_gain_43 rfl (by decide) (l := 915) rfl (k15 h2 h3 h7) rfl ?_
        refine q_istore_n (pc' := 45) (ls' := [some (.ref 146), some (.int a1), some (.int a2), some (.int (s 148 ((61 * a2) + (s 171 (s 146 53).toNatClampNeg)).toNatClampNeg)), none]) ja_M_gain_44 rfl ⟨Nat.le_of_ble_eq_true rfl, rfl⟩ rfl ?_
        refine q_aload_n (pc' := 46) ja_M_gain_45 rfl rfl ?_
        refine q_getf (pc' := 49) (v := .ref 157) ja_M_gain_46 rfl (by decide) ⟨rfl, by decide⟩ rfl ?_
        refine q_iload_n (pc' := 50) ja_M_gain_49 rfl rfl ?_
        refine q_iald (pc' := 51) (v := .int (s 157 a1.toNatClampNeg)) ja_M_gain_50 rfl (by decide) (l := 13) rfl (k16 h2 h3 h7) rfl ?_
        refine q_iconst (pc' := 52) ja_M_gain_51 rfl 1 (by decide) ?_
        refine q_ic_ne (pc' := 55) ja_M_gain_52 rfl ?_ ?_
        · intro h8
          refine q_aload_n (pc' := 60) ja_M_gain_59 rfl rfl ?_
          refine q_getf (pc' := 63) (v := .ref 148) ja_M_gain_60 rfl (by decide) ⟨rfl, by decide⟩ rfl ?_
          refine q_bipush (pc' := 65) ja_M_gain_63 rfl 61 (by decide) ?_
          refine q_iload_n (pc' := 66) ja_M_gain_65 rfl rfl ?_
          refine q_imul (pc' := 67) ja_M_gain_66 rfl ?_
          refine q_aload_n (pc' := 68) ja_M_gain_67 rfl rfl ?_
          refine q_getf (pc' := 71) (v := .ref 160) ja_M_gain_68 rfl (by decide) ⟨rfl, by decide⟩ rfl ?_
          refine q_iload_n (pc' := 72) ja_M_gain_71 rfl rfl ?_
          refine q_iald (pc' := 73) (v := .int (s 160 a1.toNatClampNeg)) ja_M_gain_72 rfl (by decide) (l := 13) rfl (k17 h2 h3 h7 h8) rfl ?_
          refine q_iadd (pc' := 74) ja_M_gain_73 rfl ?_
          refine q_iald (pc' := 75) (v := .int (s 148 ((61 * a2) + (s 160 a1.toNatClampNeg)).toNatClampNeg)) ja_M_gain_74 rfl (by decide) (l := 915) rfl (k18 h2 h3 h7 h8) rfl ?_
          refine q_istore (pc' := 77) (ls' := [some (.ref 146), some (.int a1), some (.int a2), some (.int (s 148 ((61 * a2) + (s 171 (s 146 53).toNatClampNeg)).toNatClampNeg)), some (.int (s 148 ((61 * a2) + (s 160 a1.toNatClampNeg)).toNatClampNeg))]) ja_M_gain_75 rfl ⟨Nat.le_of_ble_eq_true rfl, rfl⟩ rfl ?_
          refine q_iload (pc' := 79) ja_M_gain_77 rfl rfl ?_
          refine q_iload_n (pc' := 80) ja_M_gain_79 rfl rfl ?_
          refine q_isub (pc' := 81) ja_M_gain_80 rfl ?_
          exact q_iret ja_M_gain_81 rfl rfl (k19 h2 h3 h7 h8)
        · intro h9
          refine q_iconst (pc' := 56) ja_M_gain_55 rfl 0 (by decide) ?_
          refine q_goto ja_M_gain_56 ?_
          refine q_istore (pc' := 77) (ls' := [some (.ref 146), some (.int a1), some (.int a2), some (.int (s 148 ((61 * a2) + (s 171 (s 146 53).toNatClampNeg)).toNatClampNeg)), some (.int 0)]) ja_M_gain_75 rfl ⟨Nat.le_of_ble_eq_true rfl, rfl⟩ rfl ?_
          refine q_iload (pc' := 79) ja_M_gain_77 rfl rfl ?_
          refine q_iload_n (pc' := 80) ja_M_gain_79 rfl rfl ?_
          refine q_isub (pc' := 81) ja_M_gain_80 rfl ?_
          exact q_iret ja_M_gain_81 rfl rfl (k20 h2 h3 h7 h9)
    · intro h10
      refine q_aload_n (pc' := 21) ja_M_isDoable_20 rfl rfl ?_
      refine q_getf (pc' := 24) (v := .int (s 146 53)) ja_M_isDoable_21 rfl (by decide) ⟨rfl, by decide⟩ rfl ?_
      refine q_bipush (pc' := 26) ja_M_isDoable_24 rfl 10 (by decide) ?_
      refine q_ic_ge (pc' := 29) ja_M_isDoable_26 rfl ?_ ?_
      · intro h11
        refine q_iconst (pc' := 34) ja_M_isDoable_33 rfl 0 (by decide) ?_
        refine q_iret ja_M_isDoable_34 rfl (by decide) ?_
        show q_W _ _ _ _ 5 [some (.ref 146), some (.int a1), some (.int a2), none, none] [.int 0] s
        refine q_if_ne (pc' := 8) ja_M_gain_5 rfl (fun h => absurd ((by decide : (0 : Int32) = 0)) h) (fun _ => ?_)
        refine q_iconst (pc' := 9) ja_M_gain_8 rfl 0 (by decide) ?_
        exact q_iret ja_M_gain_9 rfl rfl (k21 h2 h10 h11)
      · intro h12
        refine q_iconst (pc' := 30) ja_M_isDoable_29 rfl 1 (by decide) ?_
        refine q_goto ja_M_isDoable_30 ?_
        refine q_iret ja_M_isDoable_34 rfl (by decide) ?_
        show q_W _ _ _ _ 5 [some (.ref 146), some (.int a1), some (.int a2), none, none] [.int 1] s
        refine q_if_ne (pc' := 8) ja_M_gain_5 rfl (fun _ => ?_) (fun h => absurd h ((by decide : ¬ (1 : Int32) = 0)))
        refine q_aload_n (pc' := 11) ja_M_gain_10 rfl rfl ?_
        refine q_getf (pc' := 14) (v := .ref 157) ja_M_gain_11 rfl (by decide) ⟨rfl, by decide⟩ rfl ?_
        refine q_iload_n (pc' := 15) ja_M_gain_14 rfl rfl ?_
        refine q_iald (pc' := 16) (v := .int (s 157 a1.toNatClampNeg)) ja_M_gain_15 rfl (by decide) (l := 13) rfl (k22 h2 h10 h12) rfl ?_
        refine q_iconst (pc' := 17) ja_M_gain_16 rfl 2 (by decide) ?_
        refine q_ic_ne (pc' := 20) ja_M_gain_17 rfl (fun h => absurd (h10) h) (fun _ => ?_)
        refine q_iconst (pc' := 21) ja_M_gain_20 rfl 0 (by decide) ?_
        refine q_goto ja_M_gain_21 ?_
        refine q_istore_n (pc' := 45) (ls' := [some (.ref 146), some (.int a1), some (.int a2), some (.int 0), none]) ja_M_gain_44 rfl ⟨Nat.le_of_ble_eq_true rfl, rfl⟩ rfl ?_
        refine q_aload_n (pc' := 46) ja_M_gain_45 rfl rfl ?_
        refine q_getf (pc' := 49) (v := .ref 157) ja_M_gain_46 rfl (by decide) ⟨rfl, by decide⟩ rfl ?_
        refine q_iload_n (pc' := 50) ja_M_gain_49 rfl rfl ?_
        refine q_iald (pc' := 51) (v := .int (s 157 a1.toNatClampNeg)) ja_M_gain_50 rfl (by decide) (l := 13) rfl (k23 h2 h10 h12) rfl ?_
        refine q_iconst (pc' := 52) ja_M_gain_51 rfl 1 (by decide) ?_
        refine q_ic_ne (pc' := 55) ja_M_gain_52 rfl ?_ ?_
        · intro h13
          refine q_aload_n (pc' := 60) ja_M_gain_59 rfl rfl ?_
          refine q_getf (pc' := 63) (v := .ref 148) ja_M_gain_60 rfl (by decide) ⟨rfl, by decide⟩ rfl ?_
          refine q_bipush (pc' := 65) ja_M_gain_63 rfl 61 (by decide) ?_
          refine q_iload_n (pc' := 66) ja_M_gain_65 rfl rfl ?_
          refine q_imul (pc' := 67) ja_M_gain_66 rfl ?_
          refine q_aload_n (pc' := 68) ja_M_gain_67 rfl rfl ?_
          refine q_getf (pc' := 71) (v := .ref 160) ja_M_gain_68 rfl (by decide) ⟨rfl, by decide⟩ rfl ?_
          refine q_iload_n (pc' := 72) ja_M_gain_71 rfl rfl ?_
          refine q_iald (pc' := 73) (v := .int (s 160 a1.toNatClampNeg)) ja_M_gain_72 rfl (by decide) (l := 13) rfl (k24 h2 h10 h12 h13) rfl ?_
          refine q_iadd (pc' := 74) ja_M_gain_73 rfl ?_
          refine q_iald (pc' := 75) (v := .int (s 148 ((61 * a2) + (s 160 a1.toNatClampNeg)).toNatClampNeg)) ja_M_gain_74 rfl (by decide) (l := 915) rfl (k25 h2 h10 h12 h13) rfl ?_
          refine q_istore (pc' := 77) (ls' := [some (.ref 146), some (.int a1), some (.int a2), some (.int 0), some (.int (s 148 ((61 * a2) + (s 160 a1.toNatClampNeg)).toNatClampNeg))]) ja_M_gain_75 rfl ⟨Nat.le_of_ble_eq_true rfl, rfl⟩ rfl ?_
          refine q_iload (pc' := 79) ja_M_gain_77 rfl rfl ?_
          refine q_iload_n (pc' := 80) ja_M_gain_79 rfl rfl ?_
          refine q_isub (pc' := 81) ja_M_gain_80 rfl ?_
          exact q_iret ja_M_gain_81 rfl rfl (k26 h2 h10 h12 h13)
        · intro h14
          refine q_iconst (pc' := 56) ja_M_gain_55 rfl 0 (by decide) ?_
          refine q_goto ja_M_gain_56 ?_
          refine q_istore (pc' := 77) (ls' := [some (.ref 146), some (.int a1), some (.int a2), some (.int 0), some (.int 0)]) ja_M_gain_75 rfl ⟨Nat.le_of_ble_eq_true rfl, rfl⟩ rfl ?_
          refine q_iload (pc' := 79) ja_M_gain_77 rfl rfl ?_
          refine q_iload_n (pc' := 80) ja_M_gain_79 rfl rfl ?_
          refine q_isub (pc' := 81) ja_M_gain_80 rfl ?_
          rw [show ((0 - 0) : Int32) = 0 from by decide]
          exact q_iret ja_M_gain_81 rfl rfl (k27 h2 h10 h12 h14)
set_option maxRecDepth 20000 in
theorem t_M_hinders {G : jv_X} {d : Nat} {B : Option Value → jg_H → Prop} {s : jg_H} (a1 : Int32) (a2 : Int32)
    (k1 : ¬ (s 146 13) = (-1) → (s 146 17) < 100 → jv_in a2 15 = true)
    (k2 : ¬ (s 146 13) = (-1) → (s 146 17) < 100 → ¬ (s 151 a2.toNatClampNeg) = 0 → a1 = 0 → ¬ (s 146 18) = 0 → B (some (.int 4)) s)
    (k3 : ¬ (s 146 13) = (-1) → (s 146 17) < 100 → ¬ (s 151 a2.toNatClampNeg) = 0 → a1 = 0 → (s 146 18) = 0 → (s 146 18) ≤ 0 → jv_in a2 15 = true)
    (k4 : ¬ (s 146 13) = (-1) → (s 146 17) < 100 → ¬ (s 151 a2.toNatClampNeg) = 0 → a1 = 0 → (s 146 18) = 0 → (s 146 18) ≤ 0 → q_P G d 178 [.ref 146, .int (s 146 15), .int 1, .int a1, .int (s 147 a2.toNatClampNeg), .int (s 146 18), .int 0, .int 0] s (fun v t => q_W G d jm_M_hinders B 138 [some (.ref 146), some (.int a1), some (.int a2), some (.int 1)] (v.toList ++ []) t))
    (k5 : ¬ (s 146 13) = (-1) → (s 146 17) < 100 → ¬ (s 151 a2.toNatClampNeg) = 0 → a1 = 0 → (s 146 18) = 0 → ¬ (s 146 18) ≤ 0 → q_P G d 185 [.ref 146, .int a1, .int a2] s (fun v t => q_W G d jm_M_hinders B 85 [some (.ref 146), some (.int a1), some (.int a2), some (.int 1)] (v.toList ++ []) t))
    (k6 : ¬ (s 146 13) = (-1) → (s 146 17) < 100 → ¬ (s 151 a2.toNatClampNeg) = 0 → ¬ a1 = 0 → ¬ a1 = 6 → ¬ (s 146 18) = 0 → (s 146 18) ≤ 0 → jv_in a2 15 = true)
    (k7 : ¬ (s 146 13) = (-1) → (s 146 17) < 100 → ¬ (s 151 a2.toNatClampNeg) = 0 → ¬ a1 = 0 → ¬ a1 = 6 → ¬ (s 146 18) = 0 → (s 146 18) ≤ 0 → q_P G d 178 [.ref 146, .int (s 146 15), .int 1, .int a1, .int (s 147 a2.toNatClampNeg), .int (s 146 18), .int 0, .int 0] s (fun v t => q_W G d jm_M_hinders B 138 [some (.ref 146), some (.int a1), some (.int a2), some (.int 0)] (v.toList ++ []) t))
    (k8 : ¬ (s 146 13) = (-1) → (s 146 17) < 100 → ¬ (s 151 a2.toNatClampNeg) = 0 → ¬ a1 = 0 → ¬ a1 = 6 → ¬ (s 146 18) = 0 → ¬ (s 146 18) ≤ 0 → q_P G d 185 [.ref 146, .int a1, .int a2] s (fun v t => q_W G d jm_M_hinders B 85 [some (.ref 146), some (.int a1), some (.int a2), some (.int 0)] (v.toList ++ []) t))
    (k9 : ¬ (s 146 13) = (-1) → (s 146 17) < 100 → ¬ (s 151 a2.toNatClampNeg) = 0 → ¬ a1 = 0 → ¬ a1 = 6 → (s 146 18) = 0 → B (some (.int 4)) s)
    (k10 : ¬ (s 146 13) = (-1) → (s 146 17) < 100 → ¬ (s 151 a2.toNatClampNeg) = 0 → ¬ a1 = 0 → a1 = 6 → ¬ (s 146 18) = 0 → B (some (.int 4)) s)
    (k11 : ¬ (s 146 13) = (-1) → (s 146 17) < 100 → ¬ (s 151 a2.toNatClampNeg) = 0 → ¬ a1 = 0 → a1 = 6 → (s 146 18) = 0 → (s 146 18) ≤ 0 → jv_in a2 15 = true)
    (k12 : ¬ (s 146 13) = (-1) → (s 146 17) < 100 → ¬ (s 151 a2.toNatClampNeg) = 0 → ¬ a1 = 0 → a1 = 6 → (s 146 18) = 0 → (s 146 18) ≤ 0 → q_P G d 178 [.ref 146, .int (s 146 15), .int 1, .int a1, .int (s 147 a2.toNatClampNeg), .int (s 146 18), .int 0, .int 0] s (fun v t => q_W G d jm_M_hinders B 138 [some (.ref 146), some (.int a1), some (.int a2), some (.int 1)] (v.toList ++ []) t))
    (k13 : ¬ (s 146 13) = (-1) → (s 146 17) < 100 → ¬ (s 151 a2.toNatClampNeg) = 0 → ¬ a1 = 0 → a1 = 6 → (s 146 18) = 0 → ¬ (s 146 18) ≤ 0 → q_P G d 185 [.ref 146, .int a1, .int a2] s (fun v t => q_W G d jm_M_hinders B 85 [some (.ref 146), some (.int a1), some (.int a2), some (.int 1)] (v.toList ++ []) t))
    (k14 : ¬ (s 146 13) = (-1) → (s 146 17) < 100 → (s 151 a2.toNatClampNeg) = 0 → B (some (.int 3)) s)
    (k15 : ¬ (s 146 13) = (-1) → ¬ (s 146 17) < 100 → B (some (.int 2)) s)
    (k16 : (s 146 13) = (-1) → a1 = 6 → (s 146 17) < 100 → jv_in a2 15 = true)
    (k17 : (s 146 13) = (-1) → a1 = 6 → (s 146 17) < 100 → ¬ (s 151 a2.toNatClampNeg) = 0 → a1 = 0 → ¬ (s 146 18) = 0 → B (some (.int 4)) s)
    (k18 : (s 146 13) = (-1) → a1 = 6 → (s 146 17) < 100 → ¬ (s 151 a2.toNatClampNeg) = 0 → a1 = 0 → (s 146 18) = 0 → (s 146 18) ≤ 0 → jv_in a2 15 = true)
    (k19 : (s 146 13) = (-1) → a1 = 6 → (s 146 17) < 100 → ¬ (s 151 a2.toNatClampNeg) = 0 → a1 = 0 → (s 146 18) = 0 → (s 146 18) ≤ 0 → q_P G d 178 [.ref 146, .int (s 146 15), .int 1, .int a1, .int (s 147 a2.toNatClampNeg), .int (s 146 18), .int 0, .int 0] s (fun v t => q_W G d jm_M_hinders B 138 [some (.ref 146), some (.int a1), some (.int a2), some (.int 1)] (v.toList ++ []) t))
    (k20 : (s 146 13) = (-1) → a1 = 6 → (s 146 17) < 100 → ¬ (s 151 a2.toNatClampNeg) = 0 → a1 = 0 → (s 146 18) = 0 → ¬ (s 146 18) ≤ 0 → q_P G d 185 [.ref 146, .int a1, .int a2] s (fun v t => q_W G d jm_M_hinders B 85 [some (.ref 146), some (.int a1), some (.int a2), some (.int 1)] (v.toList ++ []) t))
    (k21 : (s 146 13) = (-1) → a1 = 6 → (s 146 17) < 100 → ¬ (s 151 a2.toNatClampNeg) = 0 → ¬ a1 = 0 → ¬ (s 146 18) = 0 → B (some (.int 4)) s)
    (k22 : (s 146 13) = (-1) → a1 = 6 → (s 146 17) < 100 → ¬ (s 151 a2.toNatClampNeg) = 0 → ¬ a1 = 0 → (s 146 18) = 0 → (s 146 18) ≤ 0 → jv_in a2 15 = true)
    (k23 : (s 146 13) = (-1) → a1 = 6 → (s 146 17) < 100 → ¬ (s 151 a2.toNatClampNeg) = 0 → ¬ a1 = 0 → (s 146 18) = 0 → (s 146 18) ≤ 0 → q_P G d 178 [.ref 146, .int (s 146 15), .int 1, .int a1, .int (s 147 a2.toNatClampNeg), .int (s 146 18), .int 0, .int 0] s (fun v t => q_W G d jm_M_hinders B 138 [some (.ref 146), some (.int a1), some (.int a2), some (.int 1)] (v.toList ++ []) t))
    (k24 : (s 146 13) = (-1) → a1 = 6 → (s 146 17) < 100 → ¬ (s 151 a2.toNatClampNeg) = 0 → ¬ a1 = 0 → (s 146 18) = 0 → ¬ (s 146 18) ≤ 0 → q_P G d 185 [.ref 146, .int a1, .int a2] s (fun v t => q_W G d jm_M_hinders B 85 [some (.ref 146), some (.int a1), some (.int a2), some (.int 1)] (v.toList ++ []) t))
    (k25 : (s 146 13) = (-1) → a1 = 6 → (s 146 17) < 100 → (s 151 a2.toNatClampNeg) = 0 → B (some (.int 3)) s)
    (k26 : (s 146 13) = (-1) → a1 = 6 → ¬ (s 146 17) < 100 → B (some (.int 2)) s)
    (k27 : (s 146 13) = (-1) → ¬ a1 = 6 → B (some (.int 1)) s) :
    q_P G (d + 1) 184 [.ref 146, .int a1, .int a2] s B := by
  refine q_in (M := jm_M_hinders) rfl (Nat.le_of_ble_eq_true rfl) (ls := [some (.ref 146), some (.int a1), some (.int a2), none]) rfl ?_
  refine q_aload_n (pc' := 1) ja_M_hinders_0 rfl rfl ?_
  refine q_getf (pc' := 4) (v := .int (s 146 13)) ja_M_hinders_1 rfl (by decide) ⟨rfl, by decide⟩ rfl ?_
  refine q_iconst (pc' := 5) ja_M_hinders_4 rfl (-1) (by decide) ?_
  refine q_ic_ne (pc' := 8) ja_M_hinders_5 rfl ?_ ?_
  · intro h1
    refine q_aload_n (pc' := 17) ja_M_hinders_16 rfl rfl ?_
    refine q_getf (pc' := 20) (v := .int (s 146 17)) ja_M_hinders_17 rfl (by decide) ⟨rfl, by decide⟩ rfl ?_
    refine q_bipush (pc' := 22) ja_M_hinders_20 rfl 100 (by decide) ?_
    refine q_ic_lt (pc' := 25) ja_M_hinders_22 rfl ?_ ?_
    · intro h2
      refine q_aload_n (pc' := 28) ja_M_hinders_27 rfl rfl ?_
      refine q_getf (pc' := 31) (v := .ref 151) ja_M_hinders_28 rfl (by decide) ⟨rfl, by decide⟩ rfl ?_
      refine q_iload_n (pc' := 32) ja_M_hinders_31 rfl rfl ?_
      refine q_bald (pc' := 33) (v := .int (s 151 a2.toNatClampNeg)) ja_M_hinders_32 rfl (by decide) (l := 15) rfl (k1 h1 h2) rfl ?_
      refine q_if_ne (pc' := 36) ja_M_hinders_33 rfl ?_ ?_
      · intro h3
        refine q_iload_n (pc' := 39) ja_M_hinders_38 rfl rfl ?_
        refine q_if_eq (pc' := 42) ja_M_hinders_39 rfl ?_ ?_
        · intro h4
          refine q_iconst (pc' := 49) ja_M_hinders_48 rfl 1 (by decide) ?_
          refine q_goto ja_M_hinders_49 ?_
          refine q_istore_n (pc' := 54) (ls' := [some (.ref 146), some (.int a1), some (.int a2), some (.int 1)]) ja_M_hinders_53 rfl ⟨Nat.le_of_ble_eq_true rfl, rfl⟩ rfl ?_
          refine q_iload_n (pc' := 55) ja_M_hinders_54 rfl rfl ?_
          refine q_aload_n (pc' := 56) ja_M_hinders_55 rfl rfl ?_
          refine q_getf (pc' := 59) (v := .int (s 146 18)) ja_M_hinders_56 rfl (by decide) ⟨rfl, by decide⟩ rfl ?_
          refine q_if_ne (pc' := 62) ja_M_hinders_59 rfl ?_ ?_
          · intro h5
            refine q_iconst (pc' := 67) ja_M_hinders_66 rfl 0 (by decide) ?_
            refine q_ic_eq (pc' := 70) ja_M_hinders_67 rfl (fun h => absurd h ((by decide : ¬ (1 : Int32) = 0))) (fun _ => ?_)
            refine q_iconst (pc' := 71) ja_M_hinders_70 rfl 4 (by decide) ?_
            exact q_iret ja_M_hinders_71 rfl rfl (k2 h1 h2 h3 h4 h5)
          · intro h6
            refine q_iconst (pc' := 63) ja_M_hinders_62 rfl 1 (by decide) ?_
            refine q_goto ja_M_hinders_63 ?_
            refine q_ic_eq (pc' := 70) ja_M_hinders_67 rfl (fun _ => ?_) (fun h => absurd ((by decide : (1 : Int32) = 1)) h)
            refine q_aload_n (pc' := 73) ja_M_hinders_72 rfl rfl ?_
            refine q_getf (pc' := 76) (v := .int (s 146 18)) ja_M_hinders_73 rfl (by decide) ⟨rfl, by decide⟩ rfl ?_
            refine q_if_le (pc' := 79) ja_M_hinders_76 rfl ?_ ?_
            · intro h7
              refine q_aload_n (pc' := 117) ja_M_hinders_116 rfl rfl ?_
              refine q_aload_n (pc' := 118) ja_M_hinders_117 rfl rfl ?_
              refine q_getf (pc' := 121) (v := .int (s 146 15)) ja_M_hinders_118 rfl (by decide) ⟨rfl, by decide⟩ rfl ?_
              refine q_iconst (pc' := 122) ja_M_hinders_121 rfl 1 (by decide) ?_
              refine q_iload_n (pc' := 123) ja_M_hinders_122 rfl rfl ?_
              refine q_aload_n (pc' := 124) ja_M_hinders_123 rfl rfl ?_
              refine q_getf (pc' := 127) (v := .ref 147) ja_M_hinders_124 rfl (by decide) ⟨rfl, by decide⟩ rfl ?_
              refine q_iload_n (pc' := 128) ja_M_hinders_127 rfl rfl ?_
              refine q_iald (pc' := 129) (v := .int (s 147 a2.toNatClampNeg)) ja_M_hinders_128 rfl (by decide) (l := 15) rfl (k3 h1 h2 h3 h4 h6 h7) rfl ?_
              refine q_aload_n (pc' := 130) ja_M_hinders_129 rfl rfl ?_
              refine q_getf (pc' := 133) (v := .int (s 146 18)) ja_M_hinders_130 rfl (by decide) ⟨rfl, by decide⟩ rfl ?_
              refine q_iconst (pc' := 134) ja_M_hinders_133 rfl 0 (by decide) ?_
              refine q_iconst (pc' := 135) ja_M_hinders_134 rfl 0 (by decide) ?_
              refine q_virt (pc' := 138) (c := 146) (as := [.int (s 146 15), .int 1, .int a1, .int (s 147 a2.toNatClampNeg), .int (s 146 18), .int 0, .int 0]) (r := []) ja_M_hinders_135 rfl rfl rfl (by decide) ⟨rfl, by decide⟩ ?_
              exact (k4 h1 h2 h3 h4 h6 h7)
            · intro h8
              refine q_aload_n (pc' := 80) ja_M_hinders_79 rfl rfl ?_
              refine q_iload_n (pc' := 81) ja_M_hinders_80 rfl rfl ?_
              refine q_iload_n (pc' := 82) ja_M_hinders_81 rfl rfl ?_
              refine q_virt (pc' := 85) (c := 146) (as := [.int a1, .int a2]) (r := []) ja_M_hinders_82 rfl rfl rfl (by decide) ⟨rfl, by decide⟩ ?_
              exact (k5 h1 h2 h3 h4 h6 h8)
        · intro h9
          refine q_iload_n (pc' := 43) ja_M_hinders_42 rfl rfl ?_
          refine q_bipush (pc' := 45) ja_M_hinders_43 rfl 6 (by decide) ?_
          refine q_ic_ne (pc' := 48) ja_M_hinders_45 rfl ?_ ?_
          · intro h10
            refine q_iconst (pc' := 53) ja_M_hinders_52 rfl 0 (by decide) ?_
            refine q_istore_n (pc' := 54) (ls' := [some (.ref 146), some (.int a1), some (.int a2), some (.int 0)]) ja_M_hinders_53 rfl ⟨Nat.le_of_ble_eq_true rfl, rfl⟩ rfl ?_
            refine q_iload_n (pc' := 55) ja_M_hinders_54 rfl rfl ?_
            refine q_aload_n (pc' := 56) ja_M_hinders_55 rfl rfl ?_
            refine q_getf (pc' := 59) (v := .int (s 146 18)) ja_M_hinders_56 rfl (by decide) ⟨rfl, by decide⟩ rfl ?_
            refine q_if_ne (pc' := 62) ja_M_hinders_59 rfl ?_ ?_
            · intro h11
              refine q_iconst (pc' := 67) ja_M_hinders_66 rfl 0 (by decide) ?_
              refine q_ic_eq (pc' := 70) ja_M_hinders_67 rfl (fun _ => ?_) (fun h => absurd ((by decide : (0 : Int32) = 0)) h)
              refine q_aload_n (pc' := 73) ja_M_hinders_72 rfl rfl ?_
              refine q_getf (pc' := 76) (v := .int (s 146 18)) ja_M_hinders_73 rfl (by decide) ⟨rfl, by decide⟩ rfl ?_
              refine q_if_le (pc' := 79) ja_M_hinders_76 rfl ?_ ?_
              · intro h12
                refine q_aload_n (pc' := 117) ja_M_hinders_116 rfl rfl ?_
                refine q_aload_n (pc' := 118) ja_M_hinders_117 rfl rfl ?_
                refine q_getf (pc' := 121) (v := .int (s 146 15)) ja_M_hinders_118 rfl (by decide) ⟨rfl, by decide⟩ rfl ?_
                refine q_iconst (pc' := 122) ja_M_hinders_121 rfl 1 (by decide) ?_
                refine q_iload_n (pc' := 123) ja_M_hinders_122 rfl rfl ?_
                refine q_aload_n (pc' := 124) ja_M_hinders_123 rfl rfl ?_
                refine q_getf (pc' := 127) (v := .ref 147) ja_M_hinders_124 rfl (by decide) ⟨rfl, by decide⟩ rfl ?_
                refine q_iload_n (pc' := 128) ja_M_hinders_127 rfl rfl ?_
                refine q_iald (pc' := 129) (v := .int (s 147 a2.toNatClampNeg)) ja_M_hinders_128 rfl (by decide) (l := 15) rfl (k6 h1 h2 h3 h9 h10 h11 h12) rfl ?_
                refine q_aload_n (pc' := 130) ja_M_hinders_129 rfl rfl ?_
                refine q_getf (pc' := 133) (v := .int (s 146 18)) ja_M_hinders_130 rfl (by decide) ⟨rfl, by decide⟩ rfl ?_
                refine q_iconst (pc' := 134) ja_M_hinders_133 rfl 0 (by decide) ?_
                refine q_iconst (pc' := 135) ja_M_hinders_134 rfl 0 (by decide) ?_
                refine q_virt (pc' := 138) (c := 146) (as := [.int (s 146 15), .int 1, .int a1, .int (s 147 a2.toNatClampNeg), .int (s 146 18), .int 0, .int 0]) (r := []) ja_M_hinders_135 rfl rfl rfl (by decide) ⟨rfl, by decide⟩ ?_
                exact (k7 h1 h2 h3 h9 h10 h11 h12)
              · intro h13
                refine q_aload_n (pc' := 80) ja_M_hinders_79 rfl rfl ?_
                refine q_iload_n (pc' := 81) ja_M_hinders_80 rfl rfl ?_
                refine q_iload_n (pc' := 82) ja_M_hinders_81 rfl rfl ?_
                refine q_virt (pc' := 85) (c := 146) (as := [.int a1, .int a2]) (r := []) ja_M_hinders_82 rfl rfl rfl (by decide) ⟨rfl, by decide⟩ ?_
                exact (k8 h1 h2 h3 h9 h10 h11 h13)
            · intro h14
              refine q_iconst (pc' := 63) ja_M_hinders_62 rfl 1 (by decide) ?_
              refine q_goto ja_M_hinders_63 ?_
              refine q_ic_eq (pc' := 70) ja_M_hinders_67 rfl (fun h => absurd h ((by decide : ¬ (0 : Int32) = 1))) (fun _ => ?_)
              refine q_iconst (pc' := 71) ja_M_hinders_70 rfl 4 (by decide) ?_
              exact q_iret ja_M_hinders_71 rfl rfl (k9 h1 h2 h3 h9 h10 h14)
          · intro h15
            refine q_iconst (pc' := 49) ja_M_hinders_48 rfl 1 (by decide) ?_
            refine q_goto ja_M_hinders_49 ?_
            refine q_istore_n (pc' := 54) (ls' := [some (.ref 146), some (.int a1), some (.int a2), some (.int 1)]) ja_M_hinders_53 rfl ⟨Nat.le_of_ble_eq_true rfl, rfl⟩ rfl ?_
            refine q_iload_n (pc' := 55) ja_M_hinders_54 rfl rfl ?_
            refine q_aload_n (pc' := 56) ja_M_hinders_55 rfl rfl ?_
            refine q_getf (pc' := 59) (v := .int (s 146 18)) ja_M_hinders_56 rfl (by decide) ⟨rfl, by decide⟩ rfl ?_
            refine q_if_ne (pc' := 62) ja_M_hinders_59 rfl ?_ ?_
            · intro h16
              refine q_iconst (pc' := 67) ja_M_hinders_66 rfl 0 (by decide) ?_
              refine q_ic_eq (pc' := 70) ja_M_hinders_67 rfl (fun h => absurd h ((by decide : ¬ (1 : Int32) = 0))) (fun _ => ?_)
              refine q_iconst (pc' := 71) ja_M_hinders_70 rfl 4 (by decide) ?_
              exact q_iret ja_M_hinders_71 rfl rfl (k10 h1 h2 h3 h9 h15 h16)
            · intro h17
              refine q_iconst (pc' := 63) ja_M_hinders_62 rfl 1 (by decide) ?_
              refine q_goto ja_M_hinders_63 ?_
              refine q_ic_eq (pc' := 70) ja_M_hinders_67 rfl (fun _ => ?_) (fun h => absurd ((by decide : (1 : Int32) = 1)) h)
              refine q_aload_n (pc' := 73) ja_M_hinders_72 rfl rfl ?_
              refine q_getf (pc' := 76) (v := .int (s 146 18)) ja_M_hinders_73 rfl (by decide) ⟨rfl, by decide⟩ rfl ?_
              refine q_if_le (pc' := 79) ja_M_hinders_76 rfl ?_ ?_
              · intro h18
                refine q_aload_n (pc' := 117) ja_M_hinders_116 rfl rfl ?_
                refine q_aload_n (pc' := 118) ja_M_hinders_117 rfl rfl ?_
                refine q_getf (pc' := 121) (v := .int (s 146 15)) ja_M_hinders_118 rfl (by decide) ⟨rfl, by decide⟩ rfl ?_
                refine q_iconst (pc' := 122) ja_M_hinders_121 rfl 1 (by decide) ?_
                refine q_iload_n (pc' := 123) ja_M_hinders_122 rfl rfl ?_
                refine q_aload_n (pc' := 124) ja_M_hinders_123 rfl rfl ?_
                refine q_getf (pc' := 127) (v := .ref 147) ja_M_hinders_124 rfl (by decide) ⟨rfl, by decide⟩ rfl ?_
                refine q_iload_n (pc' := 128) ja_M_hinders_127 rfl rfl ?_
                refine q_iald (pc' := 129) (v := .int (s 147 a2.toNatClampNeg)) ja_M_hinders_128 rfl (by decide) (l := 15) rfl (k11 h1 h2 h3 h9 h15 h17 h18) rfl ?_
                refine q_aload_n (pc' := 130) ja_M_hinders_129 rfl rfl ?_
                refine q_getf (pc' := 133) (v := .int (s 146 18)) ja_M_hinders_130 rfl (by decide) ⟨rfl, by decide⟩ rfl ?_
                refine q_iconst (pc' := 134) ja_M_hinders_133 rfl 0 (by decide) ?_
                refine q_iconst (pc' := 135) ja_M_hinders_134 rfl 0 (by decide) ?_
                refine q_virt (pc' := 138) (c := 146) (as := [.int (s 146 15), .int 1, .int a1, .int (s 147 a2.toNatClampNeg), .int (s 146 18), .int 0, .int 0]) (r := []) ja_M_hinders_135 rfl rfl rfl (by decide) ⟨rfl, by decide⟩ ?_
                exact (k12 h1 h2 h3 h9 h15 h17 h18)
              · intro h19
                refine q_aload_n (pc' := 80) ja_M_hinders_79 rfl rfl ?_
                refine q_iload_n (pc' := 81) ja_M_hinders_80 rfl rfl ?_
                refine q_iload_n (pc' := 82) ja_M_hinders_81 rfl rfl ?_
                refine q_virt (pc' := 85) (c := 146) (as := [.int a1, .int a2]) (r := []) ja_M_hinders_82 rfl rfl rfl (by decide) ⟨rfl, by decide⟩ ?_
                exact (k13 h1 h2 h3 h9 h15 h17 h19)
      · intro h20
        refine q_iconst (pc' := 37) ja_M_hinders_36 rfl 3 (by decide) ?_
        exact q_iret ja_M_hinders_37 rfl rfl (k14 h1 h2 h20)
    · intro h21
      refine q_iconst (pc' := 26) ja_M_hinders_25 rfl 2 (by decide) ?_
      exact q_iret ja_M_hinders_26 rfl rfl (k15 h1 h21)
  · intro h22
    refine q_iload_n (pc' := 9) ja_M_hinders_8 rfl rfl ?_
    refine q_bipush (pc' := 11) ja_M_hinders_9 rfl 6 (by decide) ?_
    refine q_ic_eq (pc' := 14) ja_M_hinders_11 rfl ?_ ?_
    · intro h23
      refine q_aload_n (pc' := 17) ja_M_hinders_16 rfl rfl ?_
      refine q_getf (pc' := 20) (v := .int (s 146 17)) ja_M_hinders_17 rfl (by decide) ⟨rfl, by decide⟩ rfl ?_
      refine q_bipush (pc' := 22) ja_M_hinders_20 rfl 100 (by decide) ?_
      refine q_ic_lt (pc' := 25) ja_M_hinders_22 rfl ?_ ?_
      · intro h24
        refine q_aload_n (pc' := 28) ja_M_hinders_27 rfl rfl ?_
        refine q_getf (pc' := 31) (v := .ref 151) ja_M_hinders_28 rfl (by decide) ⟨rfl, by decide⟩ rfl ?_
        refine q_iload_n (pc' := 32) ja_M_hinders_31 rfl rfl ?_
        refine q_bald (pc' := 33) (v := .int (s 151 a2.toNatClampNeg)) ja_M_hinders_32 rfl (by decide) (l := 15) rfl (k16 h22 h23 h24) rfl ?_
        refine q_if_ne (pc' := 36) ja_M_hinders_33 rfl ?_ ?_
        · intro h25
          refine q_iload_n (pc' := 39) ja_M_hinders_38 rfl rfl ?_
          refine q_if_eq (pc' := 42) ja_M_hinders_39 rfl ?_ ?_
          · intro h26
            refine q_iconst (pc' := 49) ja_M_hinders_48 rfl 1 (by decide) ?_
            refine q_goto ja_M_hinders_49 ?_
            refine q_istore_n (pc' := 54) (ls' := [some (.ref 146), some (.int a1), some (.int a2), some (.int 1)]) ja_M_hinders_53 rfl ⟨Nat.le_of_ble_eq_true rfl, rfl⟩ rfl ?_
            refine q_iload_n (pc' := 55) ja_M_hinders_54 rfl rfl ?_
            refine q_aload_n (pc' := 56) ja_M_hinders_55 rfl rfl ?_
            refine q_getf (pc' := 59) (v := .int (s 146 18)) ja_M_hinders_56 rfl (by decide) ⟨rfl, by decide⟩ rfl ?_
            refine q_if_ne (pc' := 62) ja_M_hinders_59 rfl ?_ ?_
            · intro h27
              refine q_iconst (pc' := 67) ja_M_hinders_66 rfl 0 (by decide) ?_
              refine q_ic_eq (pc' := 70) ja_M_hinders_67 rfl (fun h => absurd h ((by decide : ¬ (1 : Int32) = 0))) (fun _ => ?_)
              refine q_iconst (pc' := 71) ja_M_hinders_70 rfl 4 (by decide) ?_
              exact q_iret ja_M_hinders_71 rfl rfl (k17 h22 h23 h24 h25 h26 h27)
            · intro h28
              refine q_iconst (pc' := 63) ja_M_hinders_62 rfl 1 (by decide) ?_
              refine q_goto ja_M_hinders_63 ?_
              refine q_ic_eq (pc' := 70) ja_M_hinders_67 rfl (fun _ => ?_) (fun h => absurd ((by decide : (1 : Int32) = 1)) h)
              refine q_aload_n (pc' := 73) ja_M_hinders_72 rfl rfl ?_
              refine q_getf (pc' := 76) (v := .int (s 146 18)) ja_M_hinders_73 rfl (by decide) ⟨rfl, by decide⟩ rfl ?_
              refine q_if_le (pc' := 79) ja_M_hinders_76 rfl ?_ ?_
              · intro h29
                refine q_aload_n (pc' := 117) ja_M_hinders_116 rfl rfl ?_
                refine q_aload_n (pc' := 118) ja_M_hinders_117 rfl rfl ?_
                refine q_getf (pc' := 121) (v := .int (s 146 15)) ja_M_hinders_118 rfl (by decide) ⟨rfl, by decide⟩ rfl ?_
                refine q_iconst (pc' := 122) ja_M_hinders_121 rfl 1 (by decide) ?_
                refine q_iload_n (pc' := 123) ja_M_hinders_122 rfl rfl ?_
                refine q_aload_n (pc' := 124) ja_M_hinders_123 rfl rfl ?_
                refine q_getf (pc' := 127) (v := .ref 147) ja_M_hinders_124 rfl (by decide) ⟨rfl, by decide⟩ rfl ?_
                refine q_iload_n (pc' := 128) ja_M_hinders_127 rfl rfl ?_
                refine q_iald (pc' := 129) (v := .int (s 147 a2.toNatClampNeg)) ja_M_hinders_128 rfl (by decide) (l := 15) rfl (k18 h22 h23 h24 h25 h26 h28 h29) rfl ?_
                refine q_aload_n (pc' := 130) ja_M_hinders_129 rfl rfl ?_
                refine q_getf (pc' := 133) (v := .int (s 146 18)) ja_M_hinders_130 rfl (by decide) ⟨rfl, by decide⟩ rfl ?_
                refine q_iconst (pc' := 134) ja_M_hinders_133 rfl 0 (by decide) ?_
                refine q_iconst (pc' := 135) ja_M_hinders_134 rfl 0 (by decide) ?_
                refine q_virt (pc' := 138) (c := 146) (as := [.int (s 146 15), .int 1, .int a1, .int (s 147 a2.toNatClampNeg), .int (s 146 18), .int 0, .int 0]) (r := []) ja_M_hinders_135 rfl rfl rfl (by decide) ⟨rfl, by decide⟩ ?_
                exact (k19 h22 h23 h24 h25 h26 h28 h29)
              · intro h30
                refine q_aload_n (pc' := 80) ja_M_hinders_79 rfl rfl ?_
                refine q_iload_n (pc' := 81) ja_M_hinders_80 rfl rfl ?_
                refine q_iload_n (pc' := 82) ja_M_hinders_81 rfl rfl ?_
                refine q_virt (pc' := 85) (c := 146) (as := [.int a1, .int a2]) (r := []) ja_M_hinders_82 rfl rfl rfl (by decide) ⟨rfl, by decide⟩ ?_
                exact (k20 h22 h23 h24 h25 h26 h28 h30)
          · intro h31
            refine q_iload_n (pc' := 43) ja_M_hinders_42 rfl rfl ?_
            refine q_bipush (pc' := 45) ja_M_hinders_43 rfl 6 (by decide) ?_
            refine q_ic_ne (pc' := 48) ja_M_hinders_45 rfl (fun h => absurd (h23) h) (fun _ => ?_)
            refine q_iconst (pc' := 49) ja_M_hinders_48 rfl 1 (by decide) ?_
            refine q_goto ja_M_hinders_49 ?_
            refine q_istore_n (pc' := 54) (ls' := [some (.ref 146), some (.int a1), some (.int a2), some (.int 1)]) ja_M_hinders_53 rfl ⟨Nat.le_of_ble_eq_true rfl, rfl⟩ rfl ?_
            refine q_iload_n (pc' := 55) ja_M_hinders_54 rfl rfl ?_
            refine q_aload_n (pc' := 56) ja_M_hinders_55 rfl rfl ?_
            refine q_getf (pc' := 59) (v := .int (s 146 18)) ja_M_hinders_56 rfl (by decide) ⟨rfl, by decide⟩ rfl ?_
            refine q_if_ne (pc' := 62) ja_M_hinders_59 rfl ?_ ?_
            · intro h32
              refine q_iconst (pc' := 67) ja_M_hinders_66 rfl 0 (by decide) ?_
              refine q_ic_eq (pc' := 70) ja_M_hinders_67 rfl (fun h => absurd h ((by decide : ¬ (1 : Int32) = 0))) (fun _ => ?_)
              refine q_iconst (pc' := 71) ja_M_hinders_70 rfl 4 (by decide) ?_
              exact q_iret ja_M_hinders_71 rfl rfl (k21 h22 h23 h24 h25 h31 h32)
            · intro h33
              refine q_iconst (pc' := 63) ja_M_hinders_62 rfl 1 (by decide) ?_
              refine q_goto ja_M_hinders_63 ?_
              refine q_ic_eq (pc' := 70) ja_M_hinders_67 rfl (fun _ => ?_) (fun h => absurd ((by decide : (1 : Int32) = 1)) h)
              refine q_aload_n (pc' := 73) ja_M_hinders_72 rfl rfl ?_
              refine q_getf (pc' := 76) (v := .int (s 146 18)) ja_M_hinders_73 rfl (by decide) ⟨rfl, by decide⟩ rfl ?_
              refine q_if_le (pc' := 79) ja_M_hinders_76 rfl ?_ ?_
              · intro h34
                refine q_aload_n (pc' := 117) ja_M_hinders_116 rfl rfl ?_
                refine q_aload_n (pc' := 118) ja_M_hinders_117 rfl rfl ?_
                refine q_getf (pc' := 121) (v := .int (s 146 15)) ja_M_hinders_118 rfl (by decide) ⟨rfl, by decide⟩ rfl ?_
                refine q_iconst (pc' := 122) ja_M_hinders_121 rfl 1 (by decide) ?_
                refine q_iload_n (pc' := 123) ja_M_hinders_122 rfl rfl ?_
                refine q_aload_n (pc' := 124) ja_M_hinders_123 rfl rfl ?_
                refine q_getf (pc' := 127) (v := .ref 147) ja_M_hinders_124 rfl (by decide) ⟨rfl, by decide⟩ rfl ?_
                refine q_iload_n (pc' := 128) ja_M_hinders_127 rfl rfl ?_
                refine q_iald (pc' := 129) (v := .int (s 147 a2.toNatClampNeg)) ja_M_hinders_128 rfl (by decide) (l := 15) rfl (k22 h22 h23 h24 h25 h31 h33 h34) rfl ?_
                refine q_aload_n (pc' := 130) ja_M_hinders_129 rfl rfl ?_
                refine q_getf (pc' := 133) (v := .int (s 146 18)) ja_M_hinders_130 rfl (by decide) ⟨rfl, by decide⟩ rfl ?_
                refine q_iconst (pc' := 134) ja_M_hinders_133 rfl 0 (by decide) ?_
                refine q_iconst (pc' := 135) ja_M_hinders_134 rfl 0 (by decide) ?_
                refine q_virt (pc' := 138) (c := 146) (as := [.int (s 146 15), .int 1, .int a1, .int (s 147 a2.toNatClampNeg), .int (s 146 18), .int 0, .int 0]) (r := []) ja_M_hinders_135 rfl rfl rfl (by decide) ⟨rfl, by decide⟩ ?_
                exact (k23 h22 h23 h24 h25 h31 h33 h34)
              · intro h35
                refine q_aload_n (pc' := 80) ja_M_hinders_79 rfl rfl ?_
                refine q_iload_n (pc' := 81) ja_M_hinders_80 rfl rfl ?_
                refine q_iload_n (pc' := 82) ja_M_hinders_81 rfl rfl ?_
                refine q_virt (pc' := 85) (c := 146) (as := [.int a1, .int a2]) (r := []) ja_M_hinders_82 rfl rfl rfl (by decide) ⟨rfl, by decide⟩ ?_
                exact (k24 h22 h23 h24 h25 h31 h33 h35)
        · intro h36
          refine q_iconst (pc' := 37) ja_M_hinders_36 rfl 3 (by decide) ?_
          exact q_iret ja_M_hinders_37 rfl rfl (k25 h22 h23 h24 h36)
      · intro h37
        refine q_iconst (pc' := 26) ja_M_hinders_25 rfl 2 (by decide) ?_
        exact q_iret ja_M_hinders_26 rfl rfl (k26 h22 h23 h37)
    · intro h38
      refine q_iconst (pc' := 15) ja_M_hinders_14 rfl 1 (by decide) ?_
      exact q_iret ja_M_hinders_15 rfl rfl (k27 h22 h38)
set_option maxRecDepth 20000 in
theorem t_M_hinders_85 {G : jv_X} {d : Nat} {B : Option Value → jg_H → Prop} {s : jg_H} (x1 : Int32) (x2 : Int32) (x3 : Int32) (y0 : Int32)
    (k1 : jv_in ((s 146 18) - 1) 13 = true)
    (k2 : jv_in ((s 146 18) - 1) 13 = true)
    (k3 : q_P G d 185 [.ref 146, .int (s 157 ((s 146 18) - 1).toNatClampNeg), .int (s 158 ((s 146 18) - 1).toNatClampNeg)] s (fun v t => q_W G d jm_M_hinders B 111 [some (.ref 146), some (.int x1), some (.int x2), some (.int x3)] (v.toList ++ [.int y0]) t)) :
    q_W G d jm_M_hinders B 85 [some (.ref 146), some (.int x1), some (.int x2), some (.int x3)] [.int y0] s := by
  refine q_aload_n (pc' := 86) ja_M_hinders_85 rfl rfl ?_
  refine q_aload_n (pc' := 87) ja_M_hinders_86 rfl rfl ?_
  refine q_getf (pc' := 90) (v := .ref 157) ja_M_hinders_87 rfl (by decide) ⟨rfl, by decide⟩ rfl ?_
  refine q_aload_n (pc' := 91) ja_M_hinders_90 rfl rfl ?_
  refine q_getf (pc' := 94) (v := .int (s 146 18)) ja_M_hinders_91 rfl (by decide) ⟨rfl, by decide⟩ rfl ?_
  refine q_iconst (pc' := 95) ja_M_hinders_94 rfl 1 (by decide) ?_
  refine q_isub (pc' := 96) ja_M_hinders_95 rfl ?_
  refine q_iald (pc' := 97) (v := .int (s 157 ((s 146 18) - 1).toNatClampNeg)) ja_M_hinders_96 rfl (by decide) (l := 13) rfl k1 rfl ?_
  refine q_aload_n (pc' := 98) ja_M_hinders_97 rfl rfl ?_
  refine q_getf (pc' := 101) (v := .ref 158) ja_M_hinders_98 rfl (by decide) ⟨rfl, by decide⟩ rfl ?_
  refine q_aload_n (pc' := 102) ja_M_hinders_101 rfl rfl ?_
  refine q_getf (pc' := 105) (v := .int (s 146 18)) ja_M_hinders_102 rfl (by decide) ⟨rfl, by decide⟩ rfl ?_
  refine q_iconst (pc' := 106) ja_M_hinders_105 rfl 1 (by decide) ?_
  refine q_isub (pc' := 107) ja_M_hinders_106 rfl ?_
  refine q_iald (pc' := 108) (v := .int (s 158 ((s 146 18) - 1).toNatClampNeg)) ja_M_hinders_107 rfl (by decide) (l := 13) rfl k2 rfl ?_
  refine q_virt (pc' := 111) (c := 146) (as := [.int (s 157 ((s 146 18) - 1).toNatClampNeg), .int (s 158 ((s 146 18) - 1).toNatClampNeg)]) (r := [.int y0]) ja_M_hinders_108 rfl rfl rfl (by decide) ⟨rfl, by decide⟩ ?_
  exact k3
set_option maxRecDepth 20000 in
theorem t_M_hinders_111 {G : jv_X} {d : Nat} {B : Option Value → jg_H → Prop} {s : jg_H} (x1 : Int32) (x2 : Int32) (x3 : Int32) (y0 : Int32) (y1 : Int32)
    (k1 : ¬ y0 ≤ y1 → jv_in x2 15 = true)
    (k2 : ¬ y0 ≤ y1 → q_P G d 178 [.ref 146, .int (s 146 15), .int 1, .int x1, .int (s 147 x2.toNatClampNeg), .int (s 146 18), .int 0, .int 0] s (fun v t => q_W G d jm_M_hinders B 138 [some (.ref 146), some (.int x1), some (.int x2), some (.int x3)] (v.toList ++ []) t))
    (k3 : y0 ≤ y1 → B (some (.int 5)) s) :
    q_W G d jm_M_hinders B 111 [some (.ref 146), some (.int x1), some (.int x2), some (.int x3)] [.int y1, .int y0] s := by
  refine q_ic_gt (pc' := 114) ja_M_hinders_111 rfl ?_ ?_
  · intro h1
    refine q_aload_n (pc' := 117) ja_M_hinders_116 rfl rfl ?_
    refine q_aload_n (pc' := 118) ja_M_hinders_117 rfl rfl ?_
    refine q_getf (pc' := 121) (v := .int (s 146 15)) ja_M_hinders_118 rfl (by decide) ⟨rfl, by decide⟩ rfl ?_
    refine q_iconst (pc' := 122) ja_M_hinders_121 rfl 1 (by decide) ?_
    refine q_iload_n (pc' := 123) ja_M_hinders_122 rfl rfl ?_
    refine q_aload_n (pc' := 124) ja_M_hinders_123 rfl rfl ?_
    refine q_getf (pc' := 127) (v := .ref 147) ja_M_hinders_124 rfl (by decide) ⟨rfl, by decide⟩ rfl ?_
    refine q_iload_n (pc' := 128) ja_M_hinders_127 rfl rfl ?_
    refine q_iald (pc' := 129) (v := .int (s 147 x2.toNatClampNeg)) ja_M_hinders_128 rfl (by decide) (l := 15) rfl (k1 h1) rfl ?_
    refine q_aload_n (pc' := 130) ja_M_hinders_129 rfl rfl ?_
    refine q_getf (pc' := 133) (v := .int (s 146 18)) ja_M_hinders_130 rfl (by decide) ⟨rfl, by decide⟩ rfl ?_
    refine q_iconst (pc' := 134) ja_M_hinders_133 rfl 0 (by decide) ?_
    refine q_iconst (pc' := 135) ja_M_hinders_134 rfl 0 (by decide) ?_
    refine q_virt (pc' := 138) (c := 146) (as := [.int (s 146 15), .int 1, .int x1, .int (s 147 x2.toNatClampNeg), .int (s 146 18), .int 0, .int 0]) (r := []) ja_M_hinders_135 rfl rfl rfl (by decide) ⟨rfl, by decide⟩ ?_
    exact (k2 h1)
  · intro h2
    refine q_iconst (pc' := 115) ja_M_hinders_114 rfl 5 (by decide) ?_
    exact q_iret ja_M_hinders_115 rfl rfl (k3 h2)
set_option maxRecDepth 20000 in
theorem t_M_hinders_138 {G : jv_X} {d : Nat} {B : Option Value → jg_H → Prop} {s : jg_H} (x1 : Int32) (x2 : Int32) (x3 : Int32) (y0 : Int32)
    (k1 : ¬ y0 = 0 → ¬ (s 146 18) = 8 → B (some (.int 0)) s)
    (k2 : ¬ y0 = 0 → (s 146 18) = 8 → B (some (.int 7)) s)
    (k3 : y0 = 0 → B (some (.int 6)) s) :
    q_W G d jm_M_hinders B 138 [some (.ref 146), some (.int x1), some (.int x2), some (.int x3)] [.int y0] s := by
  refine q_if_ne (pc' := 141) ja_M_hinders_138 rfl ?_ ?_
  · intro h1
    refine q_aload_n (pc' := 145) ja_M_hinders_144 rfl rfl ?_
    refine q_getf (pc' := 148) (v := .int (s 146 18)) ja_M_hinders_145 rfl (by decide) ⟨rfl, by decide⟩ rfl ?_
    refine q_bipush (pc' := 150) ja_M_hinders_148 rfl 8 (by decide) ?_
    refine q_ic_ne (pc' := 153) ja_M_hinders_150 rfl ?_ ?_
    · intro h2
      refine q_iconst (pc' := 159) ja_M_hinders_158 rfl 0 (by decide) ?_
      exact q_iret ja_M_hinders_159 rfl rfl (k1 h1 h2)
    · intro h3
      refine q_bipush (pc' := 155) ja_M_hinders_153 rfl 7 (by decide) ?_
      refine q_goto ja_M_hinders_155 ?_
      exact q_iret ja_M_hinders_159 rfl rfl (k2 h1 h3)
  · intro h4
    refine q_bipush (pc' := 143) ja_M_hinders_141 rfl 6 (by decide) ?_
    exact q_iret ja_M_hinders_143 rfl rfl (k3 h4)
set_option maxRecDepth 20000 in
theorem t_M_in {G : jv_X} {d : Nat} {B : Option Value → jg_H → Prop} {s : jg_H} (a1 : Int32) (a2 : Int32) (a3 : Int32)
    (k1 : a1 < a2 → B (some (.int 0)) s)
    (k2 : ¬ a1 < a2 → ¬ a1 ≤ a3 → B (some (.int 0)) s)
    (k3 : ¬ a1 < a2 → a1 ≤ a3 → B (some (.int 1)) s) :
    q_P G (d + 1) 152 [.int a1, .int a2, .int a3] s B := by
  refine q_in (M := jm_M_in) rfl (Nat.le_of_ble_eq_true rfl) (ls := [some (.int a1), some (.int a2), some (.int a3)]) rfl ?_
  refine q_iload_n (pc' := 1) ja_M_in_0 rfl rfl ?_
  refine q_iload_n (pc' := 2) ja_M_in_1 rfl rfl ?_
  refine q_ic_lt (pc' := 5) ja_M_in_2 rfl ?_ ?_
  · intro h1
    refine q_iconst (pc' := 15) ja_M_in_14 rfl 0 (by decide) ?_
    exact q_iret ja_M_in_15 rfl (by decide) (k1 h1)
  · intro h2
    refine q_iload_n (pc' := 6) ja_M_in_5 rfl rfl ?_
    refine q_iload_n (pc' := 7) ja_M_in_6 rfl rfl ?_
    refine q_ic_gt (pc' := 10) ja_M_in_7 rfl ?_ ?_
    · intro h3
      refine q_iconst (pc' := 15) ja_M_in_14 rfl 0 (by decide) ?_
      exact q_iret ja_M_in_15 rfl (by decide) (k2 h2 h3)
    · intro h4
      refine q_iconst (pc' := 11) ja_M_in_10 rfl 1 (by decide) ?_
      refine q_goto ja_M_in_11 ?_
      exact q_iret ja_M_in_15 rfl (by decide) (k3 h2 h4)
set_option maxRecDepth 20000 in
theorem t_M_isAct {G : jv_X} {d : Nat} {B : Option Value → jg_H → Prop} {s : jg_H} (a1 : Int32) (a2 : Int32) (a3 : Int32) (a4 : Int32)
    (k1 : a1 < 0 → B (some (.int 0)) s)
    (k2 : ¬ a1 < 0 → ¬ a1 ≤ 6 → B (some (.int 0)) s)
    (k3 : ¬ a1 < 0 → a1 ≤ 6 → a2 < 0 → B (some (.int 0)) s)
    (k4 : ¬ a1 < 0 → a1 ≤ 6 → ¬ a2 < 0 → ¬ a2 ≤ ((s 146 0) - 1) → B (some (.int 0)) s)
    (k5 : ¬ a1 < 0 → a1 ≤ 6 → ¬ a2 < 0 → a2 ≤ ((s 146 0) - 1) → a1 < 2 → ¬ a1 = 6 → a1 < 1 → B (some (.int 1)) s)
    (k6 : ¬ a1 < 0 → a1 ≤ 6 → ¬ a2 < 0 → a2 ≤ ((s 146 0) - 1) → a1 < 2 → ¬ a1 = 6 → ¬ a1 < 1 → ¬ a1 ≤ 3 → B (some (.int 1)) s)
    (k7 : ¬ a1 < 0 → a1 ≤ 6 → ¬ a2 < 0 → a2 ≤ ((s 146 0) - 1) → a1 < 2 → ¬ a1 = 6 → ¬ a1 < 1 → a1 ≤ 3 → (s 146 13) = (-1) → B (some (.int 1)) s)
    (k8 : ¬ a1 < 0 → a1 ≤ 6 → ¬ a2 < 0 → a2 ≤ ((s 146 0) - 1) → a1 < 2 → ¬ a1 = 6 → ¬ a1 < 1 → a1 ≤ 3 → ¬ (s 146 13) = (-1) → jv_in (s 146 13) 8 = true)
    (k9 : ¬ a1 < 0 → a1 ≤ 6 → ¬ a2 < 0 → a2 ≤ ((s 146 0) - 1) → a1 < 2 → ¬ a1 = 6 → ¬ a1 < 1 → a1 ≤ 3 → ¬ (s 146 13) = (-1) → ¬ a1 = 2 → a3 < 0 → B (some (.int 0)) s)
    (k10 : ¬ a1 < 0 → a1 ≤ 6 → ¬ a2 < 0 → a2 ≤ ((s 146 0) - 1) → a1 < 2 → ¬ a1 = 6 → ¬ a1 < 1 → a1 ≤ 3 → ¬ (s 146 13) = (-1) → ¬ a1 = 2 → ¬ a3 < 0 → ¬ a3 ≤ ((s 153 (s 146 13).toNatClampNeg) - 1) → B (some (.int 0)) s)
    (k11 : ¬ a1 < 0 → a1 ≤ 6 → ¬ a2 < 0 → a2 ≤ ((s 146 0) - 1) → a1 < 2 → ¬ a1 = 6 → ¬ a1 < 1 → a1 ≤ 3 → ¬ (s 146 13) = (-1) → ¬ a1 = 2 → ¬ a3 < 0 → a3 ≤ ((s 153 (s 146 13).toNatClampNeg) - 1) → B (some (.int 1)) s)
    (k12 : ¬ a1 < 0 → a1 ≤ 6 → ¬ a2 < 0 → a2 ≤ ((s 146 0) - 1) → a1 < 2 → ¬ a1 = 6 → ¬ a1 < 1 → a1 ≤ 3 → ¬ (s 146 13) = (-1) → a1 = 2 → a3 < 0 → B (some (.int 0)) s)
    (k13 : ¬ a1 < 0 → a1 ≤ 6 → ¬ a2 < 0 → a2 ≤ ((s 146 0) - 1) → a1 < 2 → ¬ a1 = 6 → ¬ a1 < 1 → a1 ≤ 3 → ¬ (s 146 13) = (-1) → a1 = 2 → ¬ a3 < 0 → ¬ a3 ≤ ((s 153 (s 146 13).toNatClampNeg) - 0) → B (some (.int 0)) s)
    (k14 : ¬ a1 < 0 → a1 ≤ 6 → ¬ a2 < 0 → a2 ≤ ((s 146 0) - 1) → a1 < 2 → ¬ a1 = 6 → ¬ a1 < 1 → a1 ≤ 3 → ¬ (s 146 13) = (-1) → a1 = 2 → ¬ a3 < 0 → a3 ≤ ((s 153 (s 146 13).toNatClampNeg) - 0) → B (some (.int 1)) s)
    (k15 : ¬ a1 < 0 → a1 ≤ 6 → ¬ a2 < 0 → a2 ≤ ((s 146 0) - 1) → a1 < 2 → a1 = 6 → a4 < 0 → B (some (.int 0)) s)
    (k16 : ¬ a1 < 0 → a1 ≤ 6 → ¬ a2 < 0 → a2 ≤ ((s 146 0) - 1) → a1 < 2 → a1 = 6 → ¬ a4 < 0 → ¬ a4 ≤ ((s 146 14) - 1) → B (some (.int 0)) s)
    (k17 : ¬ a1 < 0 → a1 ≤ 6 → ¬ a2 < 0 → a2 ≤ ((s 146 0) - 1) → a1 < 2 → a1 = 6 → ¬ a4 < 0 → a4 ≤ ((s 146 14) - 1) → a1 < 1 → B (some (.int 1)) s)
    (k18 : ¬ a1 < 0 → a1 ≤ 6 → ¬ a2 < 0 → a2 ≤ ((s 146 0) - 1) → a1 < 2 → a1 = 6 → ¬ a4 < 0 → a4 ≤ ((s 146 14) - 1) → ¬ a1 < 1 → ¬ a1 ≤ 3 → B (some (.int 1)) s)
    (k19 : ¬ a1 < 0 → a1 ≤ 6 → ¬ a2 < 0 → a2 ≤ ((s 146 0) - 1) → a1 < 2 → a1 = 6 → ¬ a4 < 0 → a4 ≤ ((s 146 14) - 1) → ¬ a1 < 1 → a1 ≤ 3 → (s 146 13) = (-1) → B (some (.int 1)) s)
    (k20 : ¬ a1 < 0 → a1 ≤ 6 → ¬ a2 < 0 → a2 ≤ ((s 146 0) - 1) → a1 < 2 → a1 = 6 → ¬ a4 < 0 → a4 ≤ ((s 146 14) - 1) → ¬ a1 < 1 → a1 ≤ 3 → ¬ (s 146 13) = (-1) → jv_in (s 146 13) 8 = true)
    (k21 : ¬ a1 < 0 → a1 ≤ 6 → ¬ a2 < 0 → a2 ≤ ((s 146 0) - 1) → a1 < 2 → a1 = 6 → ¬ a4 < 0 → a4 ≤ ((s 146 14) - 1) → ¬ a1 < 1 → a1 ≤ 3 → ¬ (s 146 13) = (-1) → ¬ a1 = 2 → a3 < 0 → B (some (.int 0)) s)
    (k22 : ¬ a1 < 0 → a1 ≤ 6 → ¬ a2 < 0 → a2 ≤ ((s 146 0) - 1) → a1 < 2 → a1 = 6 → ¬ a4 < 0 → a4 ≤ ((s 146 14) - 1) → ¬ a1 < 1 → a1 ≤ 3 → ¬ (s 146 13) = (-1) → ¬ a1 = 2 → ¬ a3 < 0 → ¬ a3 ≤ ((s 153 (s 146 13).toNatClampNeg) - 1) → B (some (.int 0)) s)
    (k23 : ¬ a1 < 0 → a1 ≤ 6 → ¬ a2 < 0 → a2 ≤ ((s 146 0) - 1) → a1 < 2 → a1 = 6 → ¬ a4 < 0 → a4 ≤ ((s 146 14) - 1) → ¬ a1 < 1 → a1 ≤ 3 → ¬ (s 146 13) = (-1) → ¬ a1 = 2 → ¬ a3 < 0 → a3 ≤ ((s 153 (s 146 13).toNatClampNeg) - 1) → B (some (.int 1)) s)
    (k24 : ¬ a1 < 0 → a1 ≤ 6 → ¬ a2 < 0 → a2 ≤ ((s 146 0) - 1) → a1 < 2 → a1 = 6 → ¬ a4 < 0 → a4 ≤ ((s 146 14) - 1) → ¬ a1 < 1 → a1 ≤ 3 → ¬ (s 146 13) = (-1) → a1 = 2 → a3 < 0 → B (some (.int 0)) s)
    (k25 : ¬ a1 < 0 → a1 ≤ 6 → ¬ a2 < 0 → a2 ≤ ((s 146 0) - 1) → a1 < 2 → a1 = 6 → ¬ a4 < 0 → a4 ≤ ((s 146 14) - 1) → ¬ a1 < 1 → a1 ≤ 3 → ¬ (s 146 13) = (-1) → a1 = 2 → ¬ a3 < 0 → ¬ a3 ≤ ((s 153 (s 146 13).toNatClampNeg) - 0) → B (some (.int 0)) s)
    (k26 : ¬ a1 < 0 → a1 ≤ 6 → ¬ a2 < 0 → a2 ≤ ((s 146 0) - 1) → a1 < 2 → a1 = 6 → ¬ a4 < 0 → a4 ≤ ((s 146 14) - 1) → ¬ a1 < 1 → a1 ≤ 3 → ¬ (s 146 13) = (-1) → a1 = 2 → ¬ a3 < 0 → a3 ≤ ((s 153 (s 146 13).toNatClampNeg) - 0) → B (some (.int 1)) s)
    (k27 : ¬ a1 < 0 → a1 ≤ 6 → ¬ a2 < 0 → a2 ≤ ((s 146 0) - 1) → ¬ a1 < 2 → ¬ a1 ≤ 3 → ¬ a1 = 6 → a1 < 1 → B (some (.int 1)) s)
    (k28 : ¬ a1 < 0 → a1 ≤ 6 → ¬ a2 < 0 → a2 ≤ ((s 146 0) - 1) → ¬ a1 < 2 → ¬ a1 ≤ 3 → ¬ a1 = 6 → ¬ a1 < 1 → B (some (.int 1)) s)
    (k29 : ¬ a1 < 0 → a1 ≤ 6 → ¬ a2 < 0 → a2 ≤ ((s 146 0) - 1) → ¬ a1 < 2 → ¬ a1 ≤ 3 → a1 = 6 → a4 < 0 → B (some (.int 0)) s)
    (k30 : ¬ a1 < 0 → a1 ≤ 6 → ¬ a2 < 0 → a2 ≤ ((s 146 0) - 1) → ¬ a1 < 2 → ¬ a1 ≤ 3 → a1 = 6 → ¬ a4 < 0 → ¬ a4 ≤ ((s 146 14) - 1) → B (some (.int 0)) s)
    (k31 : ¬ a1 < 0 → a1 ≤ 6 → ¬ a2 < 0 → a2 ≤ ((s 146 0) - 1) → ¬ a1 < 2 → ¬ a1 ≤ 3 → a1 = 6 → ¬ a4 < 0 → a4 ≤ ((s 146 14) - 1) → a1 < 1 → B (some (.int 1)) s)
    (k32 : ¬ a1 < 0 → a1 ≤ 6 → ¬ a2 < 0 → a2 ≤ ((s 146 0) - 1) → ¬ a1 < 2 → ¬ a1 ≤ 3 → a1 = 6 → ¬ a4 < 0 → a4 ≤ ((s 146 14) - 1) → ¬ a1 < 1 → B (some (.int 1)) s)
    (k33 : ¬ a1 < 0 → a1 ≤ 6 → ¬ a2 < 0 → a2 ≤ ((s 146 0) - 1) → ¬ a1 < 2 → a1 ≤ 3 → a4 < 1 → B (some (.int 0)) s)
    (k34 : ¬ a1 < 0 → a1 ≤ 6 → ¬ a2 < 0 → a2 ≤ ((s 146 0) - 1) → ¬ a1 < 2 → a1 ≤ 3 → ¬ a4 < 1 → ¬ a4 ≤ 60 → B (some (.int 0)) s)
    (k35 : ¬ a1 < 0 → a1 ≤ 6 → ¬ a2 < 0 → a2 ≤ ((s 146 0) - 1) → ¬ a1 < 2 → a1 ≤ 3 → ¬ a4 < 1 → a4 ≤ 60 → ¬ a1 = 6 → a1 < 1 → B (some (.int 1)) s)
    (k36 : ¬ a1 < 0 → a1 ≤ 6 → ¬ a2 < 0 → a2 ≤ ((s 146 0) - 1) → ¬ a1 < 2 → a1 ≤ 3 → ¬ a4 < 1 → a4 ≤ 60 → ¬ a1 = 6 → ¬ a1 < 1 → (s 146 13) = (-1) → B (some (.int 1)) s)
    (k37 : ¬ a1 < 0 → a1 ≤ 6 → ¬ a2 < 0 → a2 ≤ ((s 146 0) - 1) → ¬ a1 < 2 → a1 ≤ 3 → ¬ a4 < 1 → a4 ≤ 60 → ¬ a1 = 6 → ¬ a1 < 1 → ¬ (s 146 13) = (-1) → jv_in (s 146 13) 8 = true)
    (k38 : ¬ a1 < 0 → a1 ≤ 6 → ¬ a2 < 0 → a2 ≤ ((s 146 0) - 1) → ¬ a1 < 2 → a1 ≤ 3 → ¬ a4 < 1 → a4 ≤ 60 → ¬ a1 = 6 → ¬ a1 < 1 → ¬ (s 146 13) = (-1) → ¬ a1 = 2 → a3 < 0 → B (some (.int 0)) s)
    (k39 : ¬ a1 < 0 → a1 ≤ 6 → ¬ a2 < 0 → a2 ≤ ((s 146 0) - 1) → ¬ a1 < 2 → a1 ≤ 3 → ¬ a4 < 1 → a4 ≤ 60 → ¬ a1 = 6 → ¬ a1 < 1 → ¬ (s 146 13) = (-1) → ¬ a1 = 2 → ¬ a3 < 0 → ¬ a3 ≤ ((s 153 (s 146 13).toNatClampNeg) - 1) → B (some (.int 0)) s)
    (k40 : ¬ a1 < 0 → a1 ≤ 6 → ¬ a2 < 0 → a2 ≤ ((s 146 0) - 1) → ¬ a1 < 2 → a1 ≤ 3 → ¬ a4 < 1 → a4 ≤ 60 → ¬ a1 = 6 → ¬ a1 < 1 → ¬ (s 146 13) = (-1) → ¬ a1 = 2 → ¬ a3 < 0 → a3 ≤ ((s 153 (s 146 13).toNatClampNeg) - 1) → B (some (.int 1)) s)
    (k41 : ¬ a1 < 0 → a1 ≤ 6 → ¬ a2 < 0 → a2 ≤ ((s 146 0) - 1) → ¬ a1 < 2 → a1 ≤ 3 → ¬ a4 < 1 → a4 ≤ 60 → ¬ a1 = 6 → ¬ a1 < 1 → ¬ (s 146 13) = (-1) → a1 = 2 → a3 < 0 → B (some (.int 0)) s)
    (k42 : ¬ a1 < 0 → a1 ≤ 6 → ¬ a2 < 0 → a2 ≤ ((s 146 0) - 1) → ¬ a1 < 2 → a1 ≤ 3 → ¬ a4 < 1 → a4 ≤ 60 → ¬ a1 = 6 → ¬ a1 < 1 → ¬ (s 146 13) = (-1) → a1 = 2 → ¬ a3 < 0 → ¬ a3 ≤ ((s 153 (s 146 13).toNatClampNeg) - 0) → B (some (.int 0)) s)
    (k43 : ¬ a1 < 0 → a1 ≤ 6 → ¬ a2 < 0 → a2 ≤ ((s 146 0) - 1) → ¬ a1 < 2 → a1 ≤ 3 → ¬ a4 < 1 → a4 ≤ 60 → ¬ a1 = 6 → ¬ a1 < 1 → ¬ (s 146 13) = (-1) → a1 = 2 → ¬ a3 < 0 → a3 ≤ ((s 153 (s 146 13).toNatClampNeg) - 0) → B (some (.int 1)) s)
    (k44 : ¬ a1 < 0 → a1 ≤ 6 → ¬ a2 < 0 → a2 ≤ ((s 146 0) - 1) → ¬ a1 < 2 → a1 ≤ 3 → ¬ a4 < 1 → a4 ≤ 60 → a1 = 6 → a4 < 0 → B (some (.int 0)) s)
    (k45 : ¬ a1 < 0 → a1 ≤ 6 → ¬ a2 < 0 → a2 ≤ ((s 146 0) - 1) → ¬ a1 < 2 → a1 ≤ 3 → ¬ a4 < 1 → a4 ≤ 60 → a1 = 6 → ¬ a4 < 0 → ¬ a4 ≤ ((s 146 14) - 1) → B (some (.int 0)) s)
    (k46 : ¬ a1 < 0 → a1 ≤ 6 → ¬ a2 < 0 → a2 ≤ ((s 146 0) - 1) → ¬ a1 < 2 → a1 ≤ 3 → ¬ a4 < 1 → a4 ≤ 60 → a1 = 6 → ¬ a4 < 0 → a4 ≤ ((s 146 14) - 1) → a1 < 1 → B (some (.int 1)) s)
    (k47 : ¬ a1 < 0 → a1 ≤ 6 → ¬ a2 < 0 → a2 ≤ ((s 146 0) - 1) → ¬ a1 < 2 → a1 ≤ 3 → ¬ a4 < 1 → a4 ≤ 60 → a1 = 6 → ¬ a4 < 0 → a4 ≤ ((s 146 14) - 1) → ¬ a1 < 1 → (s 146 13) = (-1) → B (some (.int 1)) s)
    (k48 : ¬ a1 < 0 → a1 ≤ 6 → ¬ a2 < 0 → a2 ≤ ((s 146 0) - 1) → ¬ a1 < 2 → a1 ≤ 3 → ¬ a4 < 1 → a4 ≤ 60 → a1 = 6 → ¬ a4 < 0 → a4 ≤ ((s 146 14) - 1) → ¬ a1 < 1 → ¬ (s 146 13) = (-1) → jv_in (s 146 13) 8 = true)
    (k49 : ¬ a1 < 0 → a1 ≤ 6 → ¬ a2 < 0 → a2 ≤ ((s 146 0) - 1) → ¬ a1 < 2 → a1 ≤ 3 → ¬ a4 < 1 → a4 ≤ 60 → a1 = 6 → ¬ a4 < 0 → a4 ≤ ((s 146 14) - 1) → ¬ a1 < 1 → ¬ (s 146 13) = (-1) → ¬ a1 = 2 → a3 < 0 → B (some (.int 0)) s)
    (k50 : ¬ a1 < 0 → a1 ≤ 6 → ¬ a2 < 0 → a2 ≤ ((s 146 0) - 1) → ¬ a1 < 2 → a1 ≤ 3 → ¬ a4 < 1 → a4 ≤ 60 → a1 = 6 → ¬ a4 < 0 → a4 ≤ ((s 146 14) - 1) → ¬ a1 < 1 → ¬ (s 146 13) = (-1) → ¬ a1 = 2 → ¬ a3 < 0 → ¬ a3 ≤ ((s 153 (s 146 13).toNatClampNeg) - 1) → B (some (.int 0)) s)
    (k51 : ¬ a1 < 0 → a1 ≤ 6 → ¬ a2 < 0 → a2 ≤ ((s 146 0) - 1) → ¬ a1 < 2 → a1 ≤ 3 → ¬ a4 < 1 → a4 ≤ 60 → a1 = 6 → ¬ a4 < 0 → a4 ≤ ((s 146 14) - 1) → ¬ a1 < 1 → ¬ (s 146 13) = (-1) → ¬ a1 = 2 → ¬ a3 < 0 → a3 ≤ ((s 153 (s 146 13).toNatClampNeg) - 1) → B (some (.int 1)) s)
    (k52 : ¬ a1 < 0 → a1 ≤ 6 → ¬ a2 < 0 → a2 ≤ ((s 146 0) - 1) → ¬ a1 < 2 → a1 ≤ 3 → ¬ a4 < 1 → a4 ≤ 60 → a1 = 6 → ¬ a4 < 0 → a4 ≤ ((s 146 14) - 1) → ¬ a1 < 1 → ¬ (s 146 13) = (-1) → a1 = 2 → a3 < 0 → B (some (.int 0)) s)
    (k53 : ¬ a1 < 0 → a1 ≤ 6 → ¬ a2 < 0 → a2 ≤ ((s 146 0) - 1) → ¬ a1 < 2 → a1 ≤ 3 → ¬ a4 < 1 → a4 ≤ 60 → a1 = 6 → ¬ a4 < 0 → a4 ≤ ((s 146 14) - 1) → ¬ a1 < 1 → ¬ (s 146 13) = (-1) → a1 = 2 → ¬ a3 < 0 → ¬ a3 ≤ ((s 153 (s 146 13).toNatClampNeg) - 0) → B (some (.int 0)) s)
    (k54 : ¬ a1 < 0 → a1 ≤ 6 → ¬ a2 < 0 → a2 ≤ ((s 146 0) - 1) → ¬ a1 < 2 → a1 ≤ 3 → ¬ a4 < 1 → a4 ≤ 60 → a1 = 6 → ¬ a4 < 0 → a4 ≤ ((s 146 14) - 1) → ¬ a1 < 1 → ¬ (s 146 13) = (-1) → a1 = 2 → ¬ a3 < 0 → a3 ≤ ((s 153 (s 146 13).toNatClampNeg) - 0) → B (some (.int 1)) s) :
    q_P G (d + 3) 183 [.ref 146, .int a1, .int a2, .int a3, .int a4] s B := by
  refine q_in (M := jm_M_isAct) rfl (Nat.le_of_ble_eq_true rfl) (ls := [some (.ref 146), some (.int a1), some (.int a2), some (.int a3), some (.int a4)]) rfl ?_
  refine q_iload_n (pc' := 1) ja_M_isAct_0 rfl rfl ?_
  refine q_iconst (pc' := 2) ja_M_isAct_1 rfl 0 (by decide) ?_
  refine q_bipush (pc' := 4) ja_M_isAct_2 rfl 6 (by decide) ?_
  refine q_stat (pc' := 7) (as := [.int a1, .int 0, .int 6]) (r := []) ja_M_isAct_4 rfl (by decide) rfl rfl ?_
  refine q_in (M := jm_M_in) rfl (Nat.le_of_ble_eq_true rfl) (ls := [some (.int a1), some (.int 0), some (.int 6)]) rfl ?_
  refine q_iload_n (pc' := 1) ja_M_in_0 rfl rfl ?_
  refine q_iload_n (pc' := 2) ja_M_in_1 rfl rfl ?_
  refine q_ic_lt (pc' := 5) ja_M_in_2 rfl ?_ ?_
  · intro h1
    refine q_iconst (pc' := 15) ja_M_in_14 rfl 0 (by decide) ?_
    refine q_iret ja_M_in_15 rfl (by decide) ?_
    show q_W _ _ _ _ 7 [some (.ref 146), some (.int a1), some (.int a2), some (.int a3), some (.int a4)] [.int 0] s
    refine q_if_eq (pc' := 10) ja_M_isAct_7 rfl (fun _ => ?_) (fun h => absurd ((by decide : (0 : Int32) = 0)) h)
    refine q_iconst (pc' := 57) ja_M_isAct_56 rfl 0 (by decide) ?_
    exact q_iret ja_M_isAct_57 rfl (by decide) (k1 h1)
  · intro h2
    refine q_iload_n (pc' := 6) ja_M_in_5 rfl rfl ?_
    refine q_iload_n (pc' := 7) ja_M_in_6 rfl rfl ?_
    refine q_ic_gt (pc' := 10) ja_M_in_7 rfl ?_ ?_
    · intro h3
      refine q_iconst (pc' := 15) ja_M_in_14 rfl 0 (by decide) ?_
      refine q_iret ja_M_in_15 rfl (by decide) ?_
      show q_W _ _ _ _ 7 [some (.ref 146), some (.int a1), some (.int a2), some (.int a3), some (.int a4)] [.int 0] s
      refine q_if_eq (pc' := 10) ja_M_isAct_7 rfl (fun _ => ?_) (fun h => absurd ((by decide : (0 : Int32) = 0)) h)
      refine q_iconst (pc' := 57) ja_M_isAct_56 rfl 0 (by decide) ?_
      exact q_iret ja_M_isAct_57 rfl (by decide) (k2 h2 h3)
    · intro h4
      refine q_iconst (pc' := 11) ja_M_in_10 rfl 1 (by decide) ?_
      refine q_goto ja_M_in_11 ?_
      refine q_iret ja_M_in_15 rfl (by decide) ?_
      show q_W _ _ _ _ 7 [some (.ref 146), some (.int a1), some (.int a2), some (.int a3), some (.int a4)] [.int 1] s
      refine q_if_eq (pc' := 10) ja_M_isAct_7 rfl (fun h => absurd h ((by decide : ¬ (1 : Int32) = 0))) (fun _ => ?_)
      refine q_aload_n (pc' := 11) ja_M_isAct_10 rfl rfl ?_
      refine q_iload_n (pc' := 12) ja_M_isAct_11 rfl rfl ?_
      refine q_virt (pc' := 15) (c := 146) (as := [.int a2]) (r := []) ja_M_isAct_12 rfl rfl rfl (by decide) ⟨rfl, by decide⟩ ?_
      refine q_in (M := jm_M_isMember) rfl (Nat.le_of_ble_eq_true rfl) (ls := [some (.ref 146), some (.int a2)]) rfl ?_
      refine q_iload_n (pc' := 1) ja_M_isMember_0 rfl rfl ?_
      refine q_iconst (pc' := 2) ja_M_isMember_1 rfl 0 (by decide) ?_
      refine q_aload_n (pc' := 3) ja_M_isMember_2 rfl rfl ?_
      refine q_getf (pc' := 6) (v := .int (s 146 0)) ja_M_isMember_3 rfl (by decide) ⟨rfl, by decide⟩ rfl ?_
      refine q_iconst (pc' := 7) ja_M_isMember_6 rfl 1 (by decide) ?_
      refine q_isub (pc' := 8) ja_M_isMember_7 rfl ?_
      refine q_stat (pc' := 11) (as := [.int a2, .int 0, .int ((s 146 0) - 1)]) (r := []) ja_M_isMember_8 rfl (by decide) rfl rfl ?_
      refine q_in (M := jm_M_in) rfl (Nat.le_of_ble_eq_true rfl) (ls := [some (.int a2), some (.int 0), some (.int ((s 146 0) - 1))]) rfl ?_
      refine q_iload_n (pc' := 1) ja_M_in_0 rfl rfl ?_
      refine q_iload_n (pc' := 2) ja_M_in_1 rfl rfl ?_
      refine q_ic_lt (pc' := 5) ja_M_in_2 rfl ?_ ?_
      · intro h5
        refine q_iconst (pc' := 15) ja_M_in_14 rfl 0 (by decide) ?_
        refine q_iret ja_M_in_15 rfl (by decide) ?_
        show q_W _ _ _ _ 11 [some (.ref 146), some (.int a2)] [.int 0] s
        refine q_iret ja_M_isMember_11 rfl (by decide) ?_
        show q_W _ _ _ _ 15 [some (.ref 146), some (.int a1), some (.int a2), some (.int a3), some (.int a4)] [.int 0] s
        refine q_if_eq (pc' := 18) ja_M_isAct_15 rfl (fun _ => ?_) (fun h => absurd ((by decide : (0 : Int32) = 0)) h)
        refine q_iconst (pc' := 57) ja_M_isAct_56 rfl 0 (by decide) ?_
        exact q_iret ja_M_isAct_57 rfl (by decide) (k3 h2 h4 h5)
      · intro h6
        refine q_iload_n (pc' := 6) ja_M_in_5 rfl rfl ?_
        refine q_iload_n (pc' := 7) ja_M_in_6 rfl rfl ?_
        refine q_ic_gt (pc' := 10) ja_M_in_7 rfl ?_ ?_
        · intro h7
          refine q_iconst (pc' := 15) ja_M_in_14 rfl 0 (by decide) ?_
          refine q_iret ja_M_in_15 rfl (by decide) ?_
          show q_W _ _ _ _ 11 [some (.ref 146), some (.int a2)] [.int 0] s
          refine q_iret ja_M_isMember_11 rfl (by decide) ?_
          show q_W _ _ _ _ 15 [some (.ref 146), some (.int a1), some (.int a2), some (.int a3), some (.int a4)] [.int 0] s
          refine q_if_eq (pc' := 18) ja_M_isAct_15 rfl (fun _ => ?_) (fun h => absurd ((by decide : (0 : Int32) = 0)) h)
          refine q_iconst (pc' := 57) ja_M_isAct_56 rfl 0 (by decide) ?_
          exact q_iret ja_M_isAct_57 rfl (by decide) (k4 h2 h4 h6 h7)
        · intro h8
          refine q_iconst (pc' := 11) ja_M_in_10 rfl 1 (by decide) ?_
          refine q_goto ja_M_in_11 ?_
          refine q_iret ja_M_in_15 rfl (by decide) ?_
          show q_W _ _ _ _ 11 [some (.ref 146), some (.int a2)] [.int 1] s
          refine q_iret ja_M_isMember_11 rfl (by decide) ?_
          show q_W _ _ _ _ 15 [some (.ref 146), some (.int a1), some (.int a2), some (.int a3), some (.int a4)] [.int 1] s
          refine q_if_eq (pc' := 18) ja_M_isAct_15 rfl (fun h => absurd h ((by decide : ¬ (1 : Int32) = 0))) (fun _ => ?_)
          refine q_iload_n (pc' := 19) ja_M_isAct_18 rfl rfl ?_
          refine q_iconst (pc' := 20) ja_M_isAct_19 rfl 2 (by decide) ?_
          refine q_iconst (pc' := 21) ja_M_isAct_20 rfl 3 (by decide) ?_
          refine q_stat (pc' := 24) (as := [.int a1, .int 2, .int 3]) (r := []) ja_M_isAct_21 rfl (by decide) rfl rfl ?_
          refine q_in (M := jm_M_in) rfl (Nat.le_of_ble_eq_true rfl) (ls := [some (.int a1), some (.int 2), some (.int 3)]) rfl ?_
          refine q_iload_n (pc' := 1) ja_M_in_0 rfl rfl ?_
          refine q_iload_n (pc' := 2) ja_M_in_1 rfl rfl ?_
          refine q_ic_lt (pc' := 5) ja_M_in_2 rfl ?_ ?_
          · intro h9
            refine q_iconst (pc' := 15) ja_M_in_14 rfl 0 (by decide) ?_
            refine q_iret ja_M_in_15 rfl (by decide) ?_
            show q_W _ _ _ _ 24 [some (.ref 146), some (.int a1), some (.int a2), some (.int a3), some (.int a4)] [.int 0] s
            refine q_if_eq (pc' := 27) ja_M_isAct_24 rfl (fun _ => ?_) (fun h => absurd ((by decide : (0 : Int32) = 0)) h)
            refine q_iload_n (pc' := 36) ja_M_isAct_35 rfl rfl ?_
            refine q_bipush (pc' := 38) ja_M_isAct_36 rfl 6 (by decide) ?_
            refine q_ic_ne (pc' := 41) ja_M_isAct_38 rfl ?_ ?_
            · intro h10
              refine q_iload_n (pc' := 59) ja_M_isAct_58 rfl rfl ?_
              refine q_iconst (pc' := 60) ja_M_isAct_59 rfl 1 (by decide) ?_
              refine q_iconst (pc' := 61) ja_M_isAct_60 rfl 3 (by decide) ?_
              refine q_stat (pc' := 64) (as := [.int a1, .int 1, .int 3]) (r := []) ja_M_isAct_61 rfl (by decide) rfl rfl ?_
              refine q_in (M := jm_M_in) rfl (Nat.le_of_ble_eq_true rfl) (ls := [some (.int a1), some (.int 1), some (.int 3)]) rfl ?_
              refine q_iload_n (pc' := 1) ja_M_in_0 rfl rfl ?_
              refine q_iload_n (pc' := 2) ja_M_in_1 rfl rfl ?_
              refine q_ic_lt (pc' := 5) ja_M_in_2 rfl ?_ ?_
              · intro h11
                refine q_iconst (pc' := 15) ja_M_in_14 rfl 0 (by decide) ?_
                refine q_iret ja_M_in_15 rfl (by decide) ?_
                show q_W _ _ _ _ 64 [some (.ref 146), some (.int a1), some (.int a2), some (.int a3), some (.int a4)] [.int 0] s
                refine q_if_eq (pc' := 67) ja_M_isAct_64 rfl (fun _ => ?_) (fun h => absurd ((by decide : (0 : Int32) = 0)) h)
                refine q_iconst (pc' := 104) ja_M_isAct_103 rfl 1 (by decide) ?_
                refine q_goto ja_M_isAct_104 ?_
                exact q_iret ja_M_isAct_108 rfl (by decide) (k5 h2 h4 h6 h8 h9 h10 h11)
              · intro h12
                refine q_iload_n (pc' := 6) ja_M_in_5 rfl rfl ?_
                refine q_iload_n (pc' := 7) ja_M_in_6 rfl rfl ?_
                refine q_ic_gt (pc' := 10) ja_M_in_7 rfl ?_ ?_
                · intro h13
                  refine q_iconst (pc' := 15) ja_M_in_14 rfl 0 (by decide) ?_
                  refine q_iret ja_M_in_15 rfl (by decide) ?_
                  show q_W _ _ _ _ 64 [some (.ref 146), some (.int a1), some (.int a2), some (.int a3), some (.int a4)] [.int 0] s
                  refine q_if_eq (pc' := 67) ja_M_isAct_64 rfl (fun _ => ?_) (fun h => absurd ((by decide : (0 : Int32) = 0)) h)
                  refine q_iconst (pc' := 104) ja_M_isAct_103 rfl 1 (by decide) ?_
                  refine q_goto ja_M_isAct_104 ?_
                  exact q_iret ja_M_isAct_108 rfl (by decide) (k6 h2 h4 h6 h8 h9 h10 h12 h13)
                · intro h14
                  refine q_iconst (pc' := 11) ja_M_in_10 rfl 1 (by decide) ?_
                  refine q_goto ja_M_in_11 ?_
                  refine q_iret ja_M_in_15 rfl (by decide) ?_
                  show q_W _ _ _ _ 64 [some (.ref 146), some (.int a1), some (.int a2), some (.int a3), some (.int a4)] [.int 1] s
                  refine q_if_eq (pc' := 67) ja_M_isAct_64 rfl (fun h => absurd h ((by decide : ¬ (1 : Int32) = 0))) (fun _ => ?_)
                  refine q_aload_n (pc' := 68) ja_M_isAct_67 rfl rfl ?_
                  refine q_getf (pc' := 71) (v := .int (s 146 13)) ja_M_isAct_68 rfl (by decide) ⟨rfl, by decide⟩ rfl ?_
                  refine q_iconst (pc' := 72) ja_M_isAct_71 rfl (-1) (by decide) ?_
                  refine q_ic_eq (pc' := 75) ja_M_isAct_72 rfl ?_ ?_
                  · intro h15
                    refine q_iconst (pc' := 104) ja_M_isAct_103 rfl 1 (by decide) ?_
                    refine q_goto ja_M_isAct_104 ?_
                    exact q_iret ja_M_isAct_108 rfl (by decide) (k7 h2 h4 h6 h8 h9 h10 h12 h14 h15)
                  · intro h16
                    refine q_iload_n (pc' := 76) ja_M_isAct_75 rfl rfl ?_
                    refine q_iconst (pc' := 77) ja_M_isAct_76 rfl 0 (by decide) ?_
                    refine q_aload_n (pc' := 78) ja_M_isAct_77 rfl rfl ?_
                    refine q_getf (pc' := 81) (v := .ref 153) ja_M_isAct_78 rfl (by decide) ⟨rfl, by decide⟩ rfl ?_
                    refine q_aload_n (pc' := 82) ja_M_isAct_81 rfl rfl ?_
                    refine q_getf (pc' := 85) (v := .int (s 146 13)) ja_M_isAct_82 rfl (by decide) ⟨rfl, by decide⟩ rfl ?_
                    refine q_iald (pc' := 86) (v := .int (s 153 (s 146 13).toNatClampNeg)) ja_M_isAct_85 rfl (by decide) (l := 8) rfl (k8 h2 h4 h6 h8 h9 h10 h12 h14 h16) rfl ?_
                    refine q_iload_n (pc' := 87) ja_M_isAct_86 rfl rfl ?_
                    refine q_iconst (pc' := 88) ja_M_isAct_87 rfl 2 (by decide) ?_
                    refine q_ic_ne (pc' := 91) ja_M_isAct_88 rfl ?_ ?_
                    · intro h17
                      refine q_iconst (pc' := 96) ja_M_isAct_95 rfl 1 (by decide) ?_
                      refine q_isub (pc' := 97) ja_M_isAct_96 rfl ?_
                      refine q_stat (pc' := 100) (as := [.int a3, .int 0, .int ((s 153 (s 146 13).toNatClampNeg) - 1)]) (r := []) ja_M_isAct_97 rfl (by decide) rfl rfl ?_
                      refine q_in (M := jm_M_in) rfl (Nat.le_of_ble_eq_true rfl) (ls := [some (.int a3), some (.int 0), some (.int ((s 153 (s 146 13).toNatClampNeg) - 1))]) rfl ?_
                      refine q_iload_n (pc' := 1) ja_M_in_0 rfl rfl ?_
                      refine q_iload_n (pc' := 2) ja_M_in_1 rfl rfl ?_
                      refine q_ic_lt (pc' := 5) ja_M_in_2 rfl ?_ ?_
                      · intro h18
                        refine q_iconst (pc' := 15) ja_M_in_14 rfl 0 (by decide) ?_
                        refine q_iret ja_M_in_15 rfl (by decide) ?_
                        show q_W _ _ _ _ 100 [some (.ref 146), some (.int a1), some (.int a2), some (.int a3), some (.int a4)] [.int 0] s
                        refine q_if_eq (pc' := 103) ja_M_isAct_100 rfl (fun _ => ?_) (fun h => absurd ((by decide : (0 : Int32) = 0)) h)
                        refine q_iconst (pc' := 108) ja_M_isAct_107 rfl 0 (by decide) ?_
                        exact q_iret ja_M_isAct_108 rfl (by decide) (k9 h2 h4 h6 h8 h9 h10 h12 h14 h16 h17 h18)
                      · intro h19
                        refine q_iload_n (pc' := 6) ja_M_in_5 rfl rfl ?_
                        refine q_iload_n (pc' := 7) ja_M_in_6 rfl rfl ?_
                        refine q_ic_gt (pc' := 10) ja_M_in_7 rfl ?_ ?_
                        · intro h20
                          refine q_iconst (pc' := 15) ja_M_in_14 rfl 0 (by decide) ?_
                          refine q_iret ja_M_in_15 rfl (by decide) ?_
                          show q_W _ _ _ _ 100 [some (.ref 146), some (.int a1), some (.int a2), some (.int a3), some (.int a4)] [.int 0] s
                          refine q_if_eq (pc' := 103) ja_M_isAct_100 rfl (fun _ => ?_) (fun h => absurd ((by decide : (0 : Int32) = 0)) h)
                          refine q_iconst (pc' := 108) ja_M_isAct_107 rfl 0 (by decide) ?_
                          exact q_iret ja_M_isAct_108 rfl (by decide) (k10 h2 h4 h6 h8 h9 h10 h12 h14 h16 h17 h19 h20)
                        · intro h21
                          refine q_iconst (pc' := 11) ja_M_in_10 rfl 1 (by decide) ?_
                          refine q_goto ja_M_in_11 ?_
                          refine q_iret ja_M_in_15 rfl (by decide) ?_
                          show q_W _ _ _ _ 100 [some (.ref 146), some (.int a1), some (.int a2), some (.int a3), some (.int a4)] [.int 1] s
                          refine q_if_eq (pc' := 103) ja_M_isAct_100 rfl (fun h => absurd h ((by decide : ¬ (1 : Int32) = 0))) (fun _ => ?_)
                          refine q_iconst (pc' := 104) ja_M_isAct_103 rfl 1 (by decide) ?_
                          refine q_goto ja_M_isAct_104 ?_
                          exact q_iret ja_M_isAct_108 rfl (by decide) (k11 h2 h4 h6 h8 h9 h10 h12 h14 h16 h17 h19 h21)
                    · intro h22
                      refine q_iconst (pc' := 92) ja_M_isAct_91 rfl 0 (by decide) ?_
                      refine q_goto ja_M_isAct_92 ?_
                      refine q_isub (pc' := 97) ja_M_isAct_96 rfl ?_
                      refine q_stat (pc' := 100) (as := [.int a3, .int 0, .int ((s 153 (s 146 13).toNatClampNeg) - 0)]) (r := []) ja_M_isAct_97 rfl (by decide) rfl rfl ?_
                      refine q_in (M := jm_M_in) rfl (Nat.le_of_ble_eq_true rfl) (ls := [some (.int a3), some (.int 0), some (.int ((s 153 (s 146 13).toNatClampNeg) - 0))]) rfl ?_
                      refine q_iload_n (pc' := 1) ja_M_in_0 rfl rfl ?_
                      refine q_iload_n (pc' := 2) ja_M_in_1 rfl rfl ?_
                      refine q_ic_lt (pc' := 5) ja_M_in_2 rfl ?_ ?_
                      · intro h23
                        refine q_iconst (pc' := 15) ja_M_in_14 rfl 0 (by decide) ?_
                        refine q_iret ja_M_in_15 rfl (by decide) ?_
                        show q_W _ _ _ _ 100 [some (.ref 146), some (.int a1), some (.int a2), some (.int a3), some (.int a4)] [.int 0] s
                        refine q_if_eq (pc' := 103) ja_M_isAct_100 rfl (fun _ => ?_) (fun h => absurd ((by decide : (0 : Int32) = 0)) h)
                        refine q_iconst (pc' := 108) ja_M_isAct_107 rfl 0 (by decide) ?_
                        exact q_iret ja_M_isAct_108 rfl (by decide) (k12 h2 h4 h6 h8 h9 h10 h12 h14 h16 h22 h23)
                      · intro h24
                        refine q_iload_n (pc' := 6) ja_M_in_5 rfl rfl ?_
                        refine q_iload_n (pc' := 7) ja_M_in_6 rfl rfl ?_
                        refine q_ic_gt (pc' := 10) ja_M_in_7 rfl ?_ ?_
                        · intro h25
                          refine q_iconst (pc' := 15) ja_M_in_14 rfl 0 (by decide) ?_
                          refine q_iret ja_M_in_15 rfl (by decide) ?_
                          show q_W _ _ _ _ 100 [some (.ref 146), some (.int a1), some (.int a2), some (.int a3), some (.int a4)] [.int 0] s
                          refine q_if_eq (pc' := 103) ja_M_isAct_100 rfl (fun _ => ?_) (fun h => absurd ((by decide : (0 : Int32) = 0)) h)
                          refine q_iconst (pc' := 108) ja_M_isAct_107 rfl 0 (by decide) ?_
                          exact q_iret ja_M_isAct_108 rfl (by decide) (k13 h2 h4 h6 h8 h9 h10 h12 h14 h16 h22 h24 h25)
                        · intro h26
                          refine q_iconst (pc' := 11) ja_M_in_10 rfl 1 (by decide) ?_
                          refine q_goto ja_M_in_11 ?_
                          refine q_iret ja_M_in_15 rfl (by decide) ?_
                          show q_W _ _ _ _ 100 [some (.ref 146), some (.int a1), some (.int a2), some (.int a3), some (.int a4)] [.int 1] s
                          refine q_if_eq (pc' := 103) ja_M_isAct_100 rfl (fun h => absurd h ((by decide : ¬ (1 : Int32) = 0))) (fun _ => ?_)
                          refine q_iconst (pc' := 104) ja_M_isAct_103 rfl 1 (by decide) ?_
                          refine q_goto ja_M_isAct_104 ?_
                          exact q_iret ja_M_isAct_108 rfl (by decide) (k14 h2 h4 h6 h8 h9 h10 h12 h14 h16 h22 h24 h26)
            · intro h27
              refine q_iload (pc' := 43) ja_M_isAct_41 rfl rfl ?_
              refine q_iconst (pc' := 44) ja_M_isAct_43 rfl 0 (by decide) ?_
              refine q_aload_n (pc' := 45) ja_M_isAct_44 rfl rfl ?_
              refine q_getf (pc' := 48) (v := .int (s 146 14)) ja_M_isAct_45 rfl (by decide) ⟨rfl, by decide⟩ rfl ?_
              refine q_iconst (pc' := 49) ja_M_isAct_48 rfl 1 (by decide) ?_
              refine q_isub (pc' := 50) ja_M_isAct_49 rfl ?_
              refine q_stat (pc' := 53) (as := [.int a4, .int 0, .int ((s 146 14) - 1)]) (r := []) ja_M_isAct_50 rfl (by decide) rfl rfl ?_
              refine q_in (M := jm_M_in) rfl (Nat.le_of_ble_eq_true rfl) (ls := [some (.int a4), some (.int 0), some (.int ((s 146 14) - 1))]) rfl ?_
              refine q_iload_n (pc' := 1) ja_M_in_0 rfl rfl ?_
              refine q_iload_n (pc' := 2) ja_M_in_1 rfl rfl ?_
              refine q_ic_lt (pc' := 5) ja_M_in_2 rfl ?_ ?_
              · intro h28
                refine q_iconst (pc' := 15) ja_M_in_14 rfl 0 (by decide) ?_
                refine q_iret ja_M_in_15 rfl (by decide) ?_
                show q_W _ _ _ _ 53 [some (.ref 146), some (.int a1), some (.int a2), some (.int a3), some (.int a4)] [.int 0] s
                refine q_if_ne (pc' := 56) ja_M_isAct_53 rfl (fun h => absurd ((by decide : (0 : Int32) = 0)) h) (fun _ => ?_)
                refine q_iconst (pc' := 57) ja_M_isAct_56 rfl 0 (by decide) ?_
                exact q_iret ja_M_isAct_57 rfl (by decide) (k15 h2 h4 h6 h8 h9 h27 h28)
              · intro h29
                refine q_iload_n (pc' := 6) ja_M_in_5 rfl rfl ?_
                refine q_iload_n (pc' := 7) ja_M_in_6 rfl rfl ?_
                refine q_ic_gt (pc' := 10) ja_M_in_7 rfl ?_ ?_
                · intro h30
                  refine q_iconst (pc' := 15) ja_M_in_14 rfl 0 (by decide) ?_
                  refine q_iret ja_M_in_15 rfl (by decide) ?_
                  show q_W _ _ _ _ 53 [some (.ref 146), some (.int a1), some (.int a2), some (.int a3), some (.int a4)] [.int 0] s
                  refine q_if_ne (pc' := 56) ja_M_isAct_53 rfl (fun h => absurd ((by decide : (0 : Int32) = 0)) h) (fun _ => ?_)
                  refine q_iconst (pc' := 57) ja_M_isAct_56 rfl 0 (by decide) ?_
                  exact q_iret ja_M_isAct_57 rfl (by decide) (k16 h2 h4 h6 h8 h9 h27 h29 h30)
                · intro h31
                  refine q_iconst (pc' := 11) ja_M_in_10 rfl 1 (by decide) ?_
                  refine q_goto ja_M_in_11 ?_
                  refine q_iret ja_M_in_15 rfl (by decide) ?_
                  show q_W _ _ _ _ 53 [some (.ref 146), some (.int a1), some (.int a2), some (.int a3), some (.int a4)] [.int 1] s
                  refine q_if_ne (pc' := 56) ja_M_isAct_53 rfl (fun _ => ?_) (fun h => absurd h ((by decide : ¬ (1 : Int32) = 0)))
                  refine q_iload_n (pc' := 59) ja_M_isAct_58 rfl rfl ?_
                  refine q_iconst (pc' := 60) ja_M_isAct_59 rfl 1 (by decide) ?_
                  refine q_iconst (pc' := 61) ja_M_isAct_60 rfl 3 (by decide) ?_
                  refine q_stat (pc' := 64) (as := [.int a1, .int 1, .int 3]) (r := []) ja_M_isAct_61 rfl (by decide) rfl rfl ?_
                  refine q_in (M := jm_M_in) rfl (Nat.le_of_ble_eq_true rfl) (ls := [some (.int a1), some (.int 1), some (.int 3)]) rfl ?_
                  refine q_iload_n (pc' := 1) ja_M_in_0 rfl rfl ?_
                  refine q_iload_n (pc' := 2) ja_M_in_1 rfl rfl ?_
                  refine q_ic_lt (pc' := 5) ja_M_in_2 rfl ?_ ?_
                  · intro h32
                    refine q_iconst (pc' := 15) ja_M_in_14 rfl 0 (by decide) ?_
                    refine q_iret ja_M_in_15 rfl (by decide) ?_
                    show q_W _ _ _ _ 64 [some (.ref 146), some (.int a1), some (.int a2), some (.int a3), some (.int a4)] [.int 0] s
                    refine q_if_eq (pc' := 67) ja_M_isAct_64 rfl (fun _ => ?_) (fun h => absurd ((by decide : (0 : Int32) = 0)) h)
                    refine q_iconst (pc' := 104) ja_M_isAct_103 rfl 1 (by decide) ?_
                    refine q_goto ja_M_isAct_104 ?_
                    exact q_iret ja_M_isAct_108 rfl (by decide) (k17 h2 h4 h6 h8 h9 h27 h29 h31 h32)
                  · intro h33
                    refine q_iload_n (pc' := 6) ja_M_in_5 rfl rfl ?_
                    refine q_iload_n (pc' := 7) ja_M_in_6 rfl rfl ?_
                    refine q_ic_gt (pc' := 10) ja_M_in_7 rfl ?_ ?_
                    · intro h34
                      refine q_iconst (pc' := 15) ja_M_in_14 rfl 0 (by decide) ?_
                      refine q_iret ja_M_in_15 rfl (by decide) ?_
                      show q_W _ _ _ _ 64 [some (.ref 146), some (.int a1), some (.int a2), some (.int a3), some (.int a4)] [.int 0] s
                      refine q_if_eq (pc' := 67) ja_M_isAct_64 rfl (fun _ => ?_) (fun h => absurd ((by decide : (0 : Int32) = 0)) h)
                      refine q_iconst (pc' := 104) ja_M_isAct_103 rfl 1 (by decide) ?_
                      refine q_goto ja_M_isAct_104 ?_
                      exact q_iret ja_M_isAct_108 rfl (by decide) (k18 h2 h4 h6 h8 h9 h27 h29 h31 h33 h34)
                    · intro h35
                      refine q_iconst (pc' := 11) ja_M_in_10 rfl 1 (by decide) ?_
                      refine q_goto ja_M_in_11 ?_
                      refine q_iret ja_M_in_15 rfl (by decide) ?_
                      show q_W _ _ _ _ 64 [some (.ref 146), some (.int a1), some (.int a2), some (.int a3), some (.int a4)] [.int 1] s
                      refine q_if_eq (pc' := 67) ja_M_isAct_64 rfl (fun h => absurd h ((by decide : ¬ (1 : Int32) = 0))) (fun _ => ?_)
                      refine q_aload_n (pc' := 68) ja_M_isAct_67 rfl rfl ?_
                      refine q_getf (pc' := 71) (v := .int (s 146 13)) ja_M_isAct_68 rfl (by decide) ⟨rfl, by decide⟩ rfl ?_
                      refine q_iconst (pc' := 72) ja_M_isAct_71 rfl (-1) (by decide) ?_
                      refine q_ic_eq (pc' := 75) ja_M_isAct_72 rfl ?_ ?_
                      · intro h36
                        refine q_iconst (pc' := 104) ja_M_isAct_103 rfl 1 (by decide) ?_
                        refine q_goto ja_M_isAct_104 ?_
                        exact q_iret ja_M_isAct_108 rfl (by decide) (k19 h2 h4 h6 h8 h9 h27 h29 h31 h33 h35 h36)
                      · intro h37
                        refine q_iload_n (pc' := 76) ja_M_isAct_75 rfl rfl ?_
                        refine q_iconst (pc' := 77) ja_M_isAct_76 rfl 0 (by decide) ?_
                        refine q_aload_n (pc' := 78) ja_M_isAct_77 rfl rfl ?_
                        refine q_getf (pc' := 81) (v := .ref 153) ja_M_isAct_78 rfl (by decide) ⟨rfl, by decide⟩ rfl ?_
                        refine q_aload_n (pc' := 82) ja_M_isAct_81 rfl rfl ?_
                        refine q_getf (pc' := 85) (v := .int (s 146 13)) ja_M_isAct_82 rfl (by decide) ⟨rfl, by decide⟩ rfl ?_
                        refine q_iald (pc' := 86) (v := .int (s 153 (s 146 13).toNatClampNeg)) ja_M_isAct_85 rfl (by decide) (l := 8) rfl (k20 h2 h4 h6 h8 h9 h27 h29 h31 h33 h35 h37) rfl ?_
                        refine q_iload_n (pc' := 87) ja_M_isAct_86 rfl rfl ?_
                        refine q_iconst (pc' := 88) ja_M_isAct_87 rfl 2 (by decide) ?_
                        refine q_ic_ne (pc' := 91) ja_M_isAct_88 rfl ?_ ?_
                        · intro h38
                          refine q_iconst (pc' := 96) ja_M_isAct_95 rfl 1 (by decide) ?_
                          refine q_isub (pc' := 97) ja_M_isAct_96 rfl ?_
                          refine q_stat (pc' := 100) (as := [.int a3, .int 0, .int ((s 153 (s 146 13).toNatClampNeg) - 1)]) (r := []) ja_M_isAct_97 rfl (by decide) rfl rfl ?_
                          refine q_in (M := jm_M_in) rfl (Nat.le_of_ble_eq_true rfl) (ls := [some (.int a3), some (.int 0), some (.int ((s 153 (s 146 13).toNatClampNeg) - 1))]) rfl ?_
                          refine q_iload_n (pc' := 1) ja_M_in_0 rfl rfl ?_
                          refine q_iload_n (pc' := 2) ja_M_in_1 rfl rfl ?_
                          refine q_ic_lt (pc' := 5) ja_M_in_2 rfl ?_ ?_
                          · intro h39
                            refine q_iconst (pc' := 15) ja_M_in_14 rfl 0 (by decide) ?_
                            refine q_iret ja_M_in_15 rfl (by decide) ?_
                            show q_W _ _ _ _ 100 [some (.ref 146), some (.int a1), some (.int a2), some (.int a3), some (.int a4)] [.int 0] s
                            refine q_if_eq (pc' := 103) ja_M_isAct_100 rfl (fun _ => ?_) (fun h => absurd ((by decide : (0 : Int32) = 0)) h)
                            refine q_iconst (pc' := 108) ja_M_isAct_107 rfl 0 (by decide) ?_
                            exact q_iret ja_M_isAct_108 rfl (by decide) (k21 h2 h4 h6 h8 h9 h27 h29 h31 h33 h35 h37 h38 h39)
                          · intro h40
                            refine q_iload_n (pc' := 6) ja_M_in_5 rfl rfl ?_
                            refine q_iload_n (pc' := 7) ja_M_in_6 rfl rfl ?_
                            refine q_ic_gt (pc' := 10) ja_M_in_7 rfl ?_ ?_
                            · intro h41
                              refine q_iconst (pc' := 15) ja_M_in_14 rfl 0 (by decide) ?_
                              refine q_iret ja_M_in_15 rfl (by decide) ?_
                              show q_W _ _ _ _ 100 [some (.ref 146), some (.int a1), some (.int a2), some (.int a3), some (.int a4)] [.int 0] s
                              refine q_if_eq (pc' := 103) ja_M_isAct_100 rfl (fun _ => ?_) (fun h => absurd ((by decide : (0 : Int32) = 0)) h)
                              refine q_iconst (pc' := 108) ja_M_isAct_107 rfl 0 (by decide) ?_
                              exact q_iret ja_M_isAct_108 rfl (by decide) (k22 h2 h4 h6 h8 h9 h27 h29 h31 h33 h35 h37 h38 h40 h41)
                            · intro h42
                              refine q_iconst (pc' := 11) ja_M_in_10 rfl 1 (by decide) ?_
                              refine q_goto ja_M_in_11 ?_
                              refine q_iret ja_M_in_15 rfl (by decide) ?_
                              show q_W _ _ _ _ 100 [some (.ref 146), some (.int a1), some (.int a2), some (.int a3), some (.int a4)] [.int 1] s
                              refine q_if_eq (pc' := 103) ja_M_isAct_100 rfl (fun h => absurd h ((by decide : ¬ (1 : Int32) = 0))) (fun _ => ?_)
                              refine q_iconst (pc' := 104) ja_M_isAct_103 rfl 1 (by decide) ?_
                              refine q_goto ja_M_isAct_104 ?_
                              exact q_iret ja_M_isAct_108 rfl (by decide) (k23 h2 h4 h6 h8 h9 h27 h29 h31 h33 h35 h37 h38 h40 h42)
                        · intro h43
                          refine q_iconst (pc' := 92) ja_M_isAct_91 rfl 0 (by decide) ?_
                          refine q_goto ja_M_isAct_92 ?_
                          refine q_isub (pc' := 97) ja_M_isAct_96 rfl ?_
                          refine q_stat (pc' := 100) (as := [.int a3, .int 0, .int ((s 153 (s 146 13).toNatClampNeg) - 0)]) (r := []) ja_M_isAct_97 rfl (by decide) rfl rfl ?_
                          refine q_in (M := jm_M_in) rfl (Nat.le_of_ble_eq_true rfl) (ls := [some (.int a3), some (.int 0), some (.int ((s 153 (s 146 13).toNatClampNeg) - 0))]) rfl ?_
                          refine q_iload_n (pc' := 1) ja_M_in_0 rfl rfl ?_
                          refine q_iload_n (pc' := 2) ja_M_in_1 rfl rfl ?_
                          refine q_ic_lt (pc' := 5) ja_M_in_2 rfl ?_ ?_
                          · intro h44
                            refine q_iconst (pc' := 15) ja_M_in_14 rfl 0 (by decide) ?_
                            refine q_iret ja_M_in_15 rfl (by decide) ?_
                            show q_W _ _ _ _ 100 [some (.ref 146), some (.int a1), some (.int a2), some (.int a3), some (.int a4)] [.int 0] s
                            refine q_if_eq (pc' := 103) ja_M_isAct_100 rfl (fun _ => ?_) (fun h => absurd ((by decide : (0 : Int32) = 0)) h)
                            refine q_iconst (pc' := 108) ja_M_isAct_107 rfl 0 (by decide) ?_
                            exact q_iret ja_M_isAct_108 rfl (by decide) (k24 h2 h4 h6 h8 h9 h27 h29 h31 h33 h35 h37 h43 h44)
                          · intro h45
                            refine q_iload_n (pc' := 6) ja_M_in_5 rfl rfl ?_
                            refine q_iload_n (pc' := 7) ja_M_in_6 rfl rfl ?_
                            refine q_ic_gt (pc' := 10) ja_M_in_7 rfl ?_ ?_
                            · intro h46
                              refine q_iconst (pc' := 15) ja_M_in_14 rfl 0 (by decide) ?_
                              refine q_iret ja_M_in_15 rfl (by decide) ?_
                              show q_W _ _ _ _ 100 [some (.ref 146), some (.int a1), some (.int a2), some (.int a3), some (.int a4)] [.int 0] s
                              refine q_if_eq (pc' := 103) ja_M_isAct_100 rfl (fun _ => ?_) (fun h => absurd ((by decide : (0 : Int32) = 0)) h)
                              refine q_iconst (pc' := 108) ja_M_isAct_107 rfl 0 (by decide) ?_
                              exact q_iret ja_M_isAct_108 rfl (by decide) (k25 h2 h4 h6 h8 h9 h27 h29 h31 h33 h35 h37 h43 h45 h46)
                            · intro h47
                              refine q_iconst (pc' := 11) ja_M_in_10 rfl 1 (by decide) ?_
                              refine q_goto ja_M_in_11 ?_
                              refine q_iret ja_M_in_15 rfl (by decide) ?_
                              show q_W _ _ _ _ 100 [some (.ref 146), some (.int a1), some (.int a2), some (.int a3), some (.int a4)] [.int 1] s
                              refine q_if_eq (pc' := 103) ja_M_isAct_100 rfl (fun h => absurd h ((by decide : ¬ (1 : Int32) = 0))) (fun _ => ?_)
                              refine q_iconst (pc' := 104) ja_M_isAct_103 rfl 1 (by decide) ?_
                              refine q_goto ja_M_isAct_104 ?_
                              exact q_iret ja_M_isAct_108 rfl (by decide) (k26 h2 h4 h6 h8 h9 h27 h29 h31 h33 h35 h37 h43 h45 h47)
          · intro h48
            refine q_iload_n (pc' := 6) ja_M_in_5 rfl rfl ?_
            refine q_iload_n (pc' := 7) ja_M_in_6 rfl rfl ?_
            refine q_ic_gt (pc' := 10) ja_M_in_7 rfl ?_ ?_
            · intro h49
              refine q_iconst (pc' := 15) ja_M_in_14 rfl 0 (by decide) ?_
              refine q_iret ja_M_in_15 rfl (by decide) ?_
              show q_W _ _ _ _ 24 [some (.ref 146), some (.int a1), some (.int a2), some (.int a3), some (.int a4)] [.int 0] s
              refine q_if_eq (pc' := 27) ja_M_isAct_24 rfl (fun _ => ?_) (fun h => absurd ((by decide : (0 : Int32) = 0)) h)
              refine q_iload_n (pc' := 36) ja_M_isAct_35 rfl rfl ?_
              refine q_bipush (pc' := 38) ja_M_isAct_36 rfl 6 (by decide) ?_
              refine q_ic_ne (pc' := 41) ja_M_isAct_38 rfl ?_ ?_
              · intro h50
                refine q_iload_n (pc' := 59) ja_M_isAct_58 rfl rfl ?_
                refine q_iconst (pc' := 60) ja_M_isAct_59 rfl 1 (by decide) ?_
                refine q_iconst (pc' := 61) ja_M_isAct_60 rfl 3 (by decide) ?_
                refine q_stat (pc' := 64) (as := [.int a1, .int 1, .int 3]) (r := []) ja_M_isAct_61 rfl (by decide) rfl rfl ?_
                refine q_in (M := jm_M_in) rfl (Nat.le_of_ble_eq_true rfl) (ls := [some (.int a1), some (.int 1), some (.int 3)]) rfl ?_
                refine q_iload_n (pc' := 1) ja_M_in_0 rfl rfl ?_
                refine q_iload_n (pc' := 2) ja_M_in_1 rfl rfl ?_
                refine q_ic_lt (pc' := 5) ja_M_in_2 rfl ?_ ?_
                · intro h51
                  refine q_iconst (pc' := 15) ja_M_in_14 rfl 0 (by decide) ?_
                  refine q_iret ja_M_in_15 rfl (by decide) ?_
                  show q_W _ _ _ _ 64 [some (.ref 146), some (.int a1), some (.int a2), some (.int a3), some (.int a4)] [.int 0] s
                  refine q_if_eq (pc' := 67) ja_M_isAct_64 rfl (fun _ => ?_) (fun h => absurd ((by decide : (0 : Int32) = 0)) h)
                  refine q_iconst (pc' := 104) ja_M_isAct_103 rfl 1 (by decide) ?_
                  refine q_goto ja_M_isAct_104 ?_
                  exact q_iret ja_M_isAct_108 rfl (by decide) (k27 h2 h4 h6 h8 h48 h49 h50 h51)
                · intro h52
                  refine q_iload_n (pc' := 6) ja_M_in_5 rfl rfl ?_
                  refine q_iload_n (pc' := 7) ja_M_in_6 rfl rfl ?_
                  refine q_ic_gt (pc' := 10) ja_M_in_7 rfl (fun _ => ?_) (fun h => absurd h (h49))
                  refine q_iconst (pc' := 15) ja_M_in_14 rfl 0 (by decide) ?_
                  refine q_iret ja_M_in_15 rfl (by decide) ?_
                  show q_W _ _ _ _ 64 [some (.ref 146), some (.int a1), some (.int a2), some (.int a3), some (.int a4)] [.int 0] s
                  refine q_if_eq (pc' := 67) ja_M_isAct_64 rfl (fun _ => ?_) (fun h => absurd ((by decide : (0 : Int32) = 0)) h)
                  refine q_iconst (pc' := 104) ja_M_isAct_103 rfl 1 (by decide) ?_
                  refine q_goto ja_M_isAct_104 ?_
                  exact q_iret ja_M_isAct_108 rfl (by decide) (k28 h2 h4 h6 h8 h48 h49 h50 h52)
              · intro h53
                refine q_iload (pc' := 43) ja_M_isAct_41 rfl rfl ?_
                refine q_iconst (pc' := 44) ja_M_isAct_43 rfl 0 (by decide) ?_
                refine q_aload_n (pc' := 45) ja_M_isAct_44 rfl rfl ?_
                refine q_getf (pc' := 48) (v := .int (s 146 14)) ja_M_isAct_45 rfl (by decide) ⟨rfl, by decide⟩ rfl ?_
                refine q_iconst (pc' := 49) ja_M_isAct_48 rfl 1 (by decide) ?_
                refine q_isub (pc' := 50) ja_M_isAct_49 rfl ?_
                refine q_stat (pc' := 53) (as := [.int a4, .int 0, .int ((s 146 14) - 1)]) (r := []) ja_M_isAct_50 rfl (by decide) rfl rfl ?_
                refine q_in (M := jm_M_in) rfl (Nat.le_of_ble_eq_true rfl) (ls := [some (.int a4), some (.int 0), some (.int ((s 146 14) - 1))]) rfl ?_
                refine q_iload_n (pc' := 1) ja_M_in_0 rfl rfl ?_
                refine q_iload_n (pc' := 2) ja_M_in_1 rfl rfl ?_
                refine q_ic_lt (pc' := 5) ja_M_in_2 rfl ?_ ?_
                · intro h54
                  refine q_iconst (pc' := 15) ja_M_in_14 rfl 0 (by decide) ?_
                  refine q_iret ja_M_in_15 rfl (by decide) ?_
                  show q_W _ _ _ _ 53 [some (.ref 146), some (.int a1), some (.int a2), some (.int a3), some (.int a4)] [.int 0] s
                  refine q_if_ne (pc' := 56) ja_M_isAct_53 rfl (fun h => absurd ((by decide : (0 : Int32) = 0)) h) (fun _ => ?_)
                  refine q_iconst (pc' := 57) ja_M_isAct_56 rfl 0 (by decide) ?_
                  exact q_iret ja_M_isAct_57 rfl (by decide) (k29 h2 h4 h6 h8 h48 h49 h53 h54)
                · intro h55
                  refine q_iload_n (pc' := 6) ja_M_in_5 rfl rfl ?_
                  refine q_iload_n (pc' := 7) ja_M_in_6 rfl rfl ?_
                  refine q_ic_gt (pc' := 10) ja_M_in_7 rfl ?_ ?_
                  · intro h56
                    refine q_iconst (pc' := 15) ja_M_in_14 rfl 0 (by decide) ?_
                    refine q_iret ja_M_in_15 rfl (by decide) ?_
                    show q_W _ _ _ _ 53 [some (.ref 146), some (.int a1), some (.int a2), some (.int a3), some (.int a4)] [.int 0] s
                    refine q_if_ne (pc' := 56) ja_M_isAct_53 rfl (fun h => absurd ((by decide : (0 : Int32) = 0)) h) (fun _ => ?_)
                    refine q_iconst (pc' := 57) ja_M_isAct_56 rfl 0 (by decide) ?_
                    exact q_iret ja_M_isAct_57 rfl (by decide) (k30 h2 h4 h6 h8 h48 h49 h53 h55 h56)
                  · intro h57
                    refine q_iconst (pc' := 11) ja_M_in_10 rfl 1 (by decide) ?_
                    refine q_goto ja_M_in_11 ?_
                    refine q_iret ja_M_in_15 rfl (by decide) ?_
                    show q_W _ _ _ _ 53 [some (.ref 146), some (.int a1), some (.int a2), some (.int a3), some (.int a4)] [.int 1] s
                    refine q_if_ne (pc' := 56) ja_M_isAct_53 rfl (fun _ => ?_) (fun h => absurd h ((by decide : ¬ (1 : Int32) = 0)))
                    refine q_iload_n (pc' := 59) ja_M_isAct_58 rfl rfl ?_
                    refine q_iconst (pc' := 60) ja_M_isAct_59 rfl 1 (by decide) ?_
                    refine q_iconst (pc' := 61) ja_M_isAct_60 rfl 3 (by decide) ?_
                    refine q_stat (pc' := 64) (as := [.int a1, .int 1, .int 3]) (r := []) ja_M_isAct_61 rfl (by decide) rfl rfl ?_
                    refine q_in (M := jm_M_in) rfl (Nat.le_of_ble_eq_true rfl) (ls := [some (.int a1), some (.int 1), some (.int 3)]) rfl ?_
                    refine q_iload_n (pc' := 1) ja_M_in_0 rfl rfl ?_
                    refine q_iload_n (pc' := 2) ja_M_in_1 rfl rfl ?_
                    refine q_ic_lt (pc' := 5) ja_M_in_2 rfl ?_ ?_
                    · intro h58
                      refine q_iconst (pc' := 15) ja_M_in_14 rfl 0 (by decide) ?_
                      refine q_iret ja_M_in_15 rfl (by decide) ?_
                      show q_W _ _ _ _ 64 [some (.ref 146), some (.int a1), some (.int a2), some (.int a3), some (.int a4)] [.int 0] s
                      refine q_if_eq (pc' := 67) ja_M_isAct_64 rfl (fun _ => ?_) (fun h => absurd ((by decide : (0 : Int32) = 0)) h)
                      refine q_iconst (pc' := 104) ja_M_isAct_103 rfl 1 (by decide) ?_
                      refine q_goto ja_M_isAct_104 ?_
                      exact q_iret ja_M_isAct_108 rfl (by decide) (k31 h2 h4 h6 h8 h48 h49 h53 h55 h57 h58)
                    · intro h59
                      refine q_iload_n (pc' := 6) ja_M_in_5 rfl rfl ?_
                      refine q_iload_n (pc' := 7) ja_M_in_6 rfl rfl ?_
                      refine q_ic_gt (pc' := 10) ja_M_in_7 rfl (fun _ => ?_) (fun h => absurd h (h49))
                      refine q_iconst (pc' := 15) ja_M_in_14 rfl 0 (by decide) ?_
                      refine q_iret ja_M_in_15 rfl (by decide) ?_
                      show q_W _ _ _ _ 64 [some (.ref 146), some (.int a1), some (.int a2), some (.int a3), some (.int a4)] [.int 0] s
                      refine q_if_eq (pc' := 67) ja_M_isAct_64 rfl (fun _ => ?_) (fun h => absurd ((by decide : (0 : Int32) = 0)) h)
                      refine q_iconst (pc' := 104) ja_M_isAct_103 rfl 1 (by decide) ?_
                      refine q_goto ja_M_isAct_104 ?_
                      exact q_iret ja_M_isAct_108 rfl (by decide) (k32 h2 h4 h6 h8 h48 h49 h53 h55 h57 h59)
            · intro h60
              refine q_iconst (pc' := 11) ja_M_in_10 rfl 1 (by decide) ?_
              refine q_goto ja_M_in_11 ?_
              refine q_iret ja_M_in_15 rfl (by decide) ?_
              show q_W _ _ _ _ 24 [some (.ref 146), some (.int a1), some (.int a2), some (.int a3), some (.int a4)] [.int 1] s
              refine q_if_eq (pc' := 27) ja_M_isAct_24 rfl (fun h => absurd h ((by decide : ¬ (1 : Int32) = 0))) (fun _ => ?_)
              refine q_iload (pc' := 29) ja_M_isAct_27 rfl rfl ?_
              refine q_stat (pc' := 32) (as := [.int a4]) (r := []) ja_M_isAct_29 rfl (by decide) rfl rfl ?_
              refine q_in (M := jm_M_isWord) rfl (Nat.le_of_ble_eq_true rfl) (ls := [some (.int a4)]) rfl ?_
              refine q_iload_n (pc' := 1) ja_M_isWord_0 rfl rfl ?_
              refine q_iconst (pc' := 2) ja_M_isWord_1 rfl 1 (by decide) ?_
              refine q_bipush (pc' := 4) ja_M_isWord_2 rfl 60 (by decide) ?_
              refine q_stat (pc' := 7) (as := [.int a4, .int 1, .int 60]) (r := []) ja_M_isWord_4 rfl (by decide) rfl rfl ?_
              refine q_in (M := jm_M_in) rfl (Nat.le_of_ble_eq_true rfl) (ls := [some (.int a4), some (.int 1), some (.int 60)]) rfl ?_
              refine q_iload_n (pc' := 1) ja_M_in_0 rfl rfl ?_
              refine q_iload_n (pc' := 2) ja_M_in_1 rfl rfl ?_
              refine q_ic_lt (pc' := 5) ja_M_in_2 rfl ?_ ?_
              · intro h61
                refine q_iconst (pc' := 15) ja_M_in_14 rfl 0 (by decide) ?_
                refine q_iret ja_M_in_15 rfl (by decide) ?_
                show q_W _ _ _ _ 7 [some (.int a4)] [.int 0] s
                refine q_iret ja_M_isWord_7 rfl (by decide) ?_
                show q_W _ _ _ _ 32 [some (.ref 146), some (.int a1), some (.int a2), some (.int a3), some (.int a4)] [.int 0] s
                refine q_if_eq (pc' := 35) ja_M_isAct_32 rfl (fun _ => ?_) (fun h => absurd ((by decide : (0 : Int32) = 0)) h)
                refine q_iconst (pc' := 57) ja_M_isAct_56 rfl 0 (by decide) ?_
                exact q_iret ja_M_isAct_57 rfl (by decide) (k33 h2 h4 h6 h8 h48 h60 h61)
              · intro h62
                refine q_iload_n (pc' := 6) ja_M_in_5 rfl rfl ?_
                refine q_iload_n (pc' := 7) ja_M_in_6 rfl rfl ?_
                refine q_ic_gt (pc' := 10) ja_M_in_7 rfl ?_ ?_
                · intro h63
                  refine q_iconst (pc' := 15) ja_M_in_14 rfl 0 (by decide) ?_
                  refine q_iret ja_M_in_15 rfl (by decide) ?_
                  show q_W _ _ _ _ 7 [some (.int a4)] [.int 0] s
                  refine q_iret ja_M_isWord_7 rfl (by decide) ?_
                  show q_W _ _ _ _ 32 [some (.ref 146), some (.int a1), some (.int a2), some (.int a3), some (.int a4)] [.int 0] s
                  refine q_if_eq (pc' := 35) ja_M_isAct_32 rfl (fun _ => ?_) (fun h => absurd ((by decide : (0 : Int32) = 0)) h)
                  refine q_iconst (pc' := 57) ja_M_isAct_56 rfl 0 (by decide) ?_
                  exact q_iret ja_M_isAct_57 rfl (by decide) (k34 h2 h4 h6 h8 h48 h60 h62 h63)
                · intro h64
                  refine q_iconst (pc' := 11) ja_M_in_10 rfl 1 (by decide) ?_
                  refine q_goto ja_M_in_11 ?_
                  refine q_iret ja_M_in_15 rfl (by decide) ?_
                  show q_W _ _ _ _ 7 [some (.int a4)] [.int 1] s
                  refine q_iret ja_M_isWord_7 rfl (by decide) ?_
                  show q_W _ _ _ _ 32 [some (.ref 146), some (.int a1), some (.int a2), some (.int a3), some (.int a4)] [.int 1] s
                  refine q_if_eq (pc' := 35) ja_M_isAct_32 rfl (fun h => absurd h ((by decide : ¬ (1 : Int32) = 0))) (fun _ => ?_)
                  refine q_iload_n (pc' := 36) ja_M_isAct_35 rfl rfl ?_
                  refine q_bipush (pc' := 38) ja_M_isAct_36 rfl 6 (by decide) ?_
                  refine q_ic_ne (pc' := 41) ja_M_isAct_38 rfl ?_ ?_
                  · intro h65
                    refine q_iload_n (pc' := 59) ja_M_isAct_58 rfl rfl ?_
                    refine q_iconst (pc' := 60) ja_M_isAct_59 rfl 1 (by decide) ?_
                    refine q_iconst (pc' := 61) ja_M_isAct_60 rfl 3 (by decide) ?_
                    refine q_stat (pc' := 64) (as := [.int a1, .int 1, .int 3]) (r := []) ja_M_isAct_61 rfl (by decide) rfl rfl ?_
                    refine q_in (M := jm_M_in) rfl (Nat.le_of_ble_eq_true rfl) (ls := [some (.int a1), some (.int 1), some (.int 3)]) rfl ?_
                    refine q_iload_n (pc' := 1) ja_M_in_0 rfl rfl ?_
                    refine q_iload_n (pc' := 2) ja_M_in_1 rfl rfl ?_
                    refine q_ic_lt (pc' := 5) ja_M_in_2 rfl ?_ ?_
                    · intro h66
                      refine q_iconst (pc' := 15) ja_M_in_14 rfl 0 (by decide) ?_
                      refine q_iret ja_M_in_15 rfl (by decide) ?_
                      show q_W _ _ _ _ 64 [some (.ref 146), some (.int a1), some (.int a2), some (.int a3), some (.int a4)] [.int 0] s
                      refine q_if_eq (pc' := 67) ja_M_isAct_64 rfl (fun _ => ?_) (fun h => absurd ((by decide : (0 : Int32) = 0)) h)
                      refine q_iconst (pc' := 104) ja_M_isAct_103 rfl 1 (by decide) ?_
                      refine q_goto ja_M_isAct_104 ?_
                      exact q_iret ja_M_isAct_108 rfl (by decide) (k35 h2 h4 h6 h8 h48 h60 h62 h64 h65 h66)
                    · intro h67
                      refine q_iload_n (pc' := 6) ja_M_in_5 rfl rfl ?_
                      refine q_iload_n (pc' := 7) ja_M_in_6 rfl rfl ?_
                      refine q_ic_gt (pc' := 10) ja_M_in_7 rfl (fun h => absurd (h60) h) (fun _ => ?_)
                      refine q_iconst (pc' := 11) ja_M_in_10 rfl 1 (by decide) ?_
                      refine q_goto ja_M_in_11 ?_
                      refine q_iret ja_M_in_15 rfl (by decide) ?_
                      show q_W _ _ _ _ 64 [some (.ref 146), some (.int a1), some (.int a2), some (.int a3), some (.int a4)] [.int 1] s
                      refine q_if_eq (pc' := 67) ja_M_isAct_64 rfl (fun h => absurd h ((by decide : ¬ (1 : Int32) = 0))) (fun _ => ?_)
                      refine q_aload_n (pc' := 68) ja_M_isAct_67 rfl rfl ?_
                      refine q_getf (pc' := 71) (v := .int (s 146 13)) ja_M_isAct_68 rfl (by decide) ⟨rfl, by decide⟩ rfl ?_
                      refine q_iconst (pc' := 72) ja_M_isAct_71 rfl (-1) (by decide) ?_
                      refine q_ic_eq (pc' := 75) ja_M_isAct_72 rfl ?_ ?_
                      · intro h68
                        refine q_iconst (pc' := 104) ja_M_isAct_103 rfl 1 (by decide) ?_
                        refine q_goto ja_M_isAct_104 ?_
                        exact q_iret ja_M_isAct_108 rfl (by decide) (k36 h2 h4 h6 h8 h48 h60 h62 h64 h65 h67 h68)
                      · intro h69
                        refine q_iload_n (pc' := 76) ja_M_isAct_75 rfl rfl ?_
                        refine q_iconst (pc' := 77) ja_M_isAct_76 rfl 0 (by decide) ?_
                        refine q_aload_n (pc' := 78) ja_M_isAct_77 rfl rfl ?_
                        refine q_getf (pc' := 81) (v := .ref 153) ja_M_isAct_78 rfl (by decide) ⟨rfl, by decide⟩ rfl ?_
                        refine q_aload_n (pc' := 82) ja_M_isAct_81 rfl rfl ?_
                        refine q_getf (pc' := 85) (v := .int (s 146 13)) ja_M_isAct_82 rfl (by decide) ⟨rfl, by decide⟩ rfl ?_
                        refine q_iald (pc' := 86) (v := .int (s 153 (s 146 13).toNatClampNeg)) ja_M_isAct_85 rfl (by decide) (l := 8) rfl (k37 h2 h4 h6 h8 h48 h60 h62 h64 h65 h67 h69) rfl ?_
                        refine q_iload_n (pc' := 87) ja_M_isAct_86 rfl rfl ?_
                        refine q_iconst (pc' := 88) ja_M_isAct_87 rfl 2 (by decide) ?_
                        refine q_ic_ne (pc' := 91) ja_M_isAct_88 rfl ?_ ?_
                        · intro h70
                          refine q_iconst (pc' := 96) ja_M_isAct_95 rfl 1 (by decide) ?_
                          refine q_isub (pc' := 97) ja_M_isAct_96 rfl ?_
                          refine q_stat (pc' := 100) (as := [.int a3, .int 0, .int ((s 153 (s 146 13).toNatClampNeg) - 1)]) (r := []) ja_M_isAct_97 rfl (by decide) rfl rfl ?_
                          refine q_in (M := jm_M_in) rfl (Nat.le_of_ble_eq_true rfl) (ls := [some (.int a3), some (.int 0), some (.int ((s 153 (s 146 13).toNatClampNeg) - 1))]) rfl ?_
                          refine q_iload_n (pc' := 1) ja_M_in_0 rfl rfl ?_
                          refine q_iload_n (pc' := 2) ja_M_in_1 rfl rfl ?_
                          refine q_ic_lt (pc' := 5) ja_M_in_2 rfl ?_ ?_
                          · intro h71
                            refine q_iconst (pc' := 15) ja_M_in_14 rfl 0 (by decide) ?_
                            refine q_iret ja_M_in_15 rfl (by decide) ?_
                            show q_W _ _ _ _ 100 [some (.ref 146), some (.int a1), some (.int a2), some (.int a3), some (.int a4)] [.int 0] s
                            refine q_if_eq (pc' := 103) ja_M_isAct_100 rfl (fun _ => ?_) (fun h => absurd ((by decide : (0 : Int32) = 0)) h)
                            refine q_iconst (pc' := 108) ja_M_isAct_107 rfl 0 (by decide) ?_
                            exact q_iret ja_M_isAct_108 rfl (by decide) (k38 h2 h4 h6 h8 h48 h60 h62 h64 h65 h67 h69 h70 h71)
                          · intro h72
                            refine q_iload_n (pc' := 6) ja_M_in_5 rfl rfl ?_
                            refine q_iload_n (pc' := 7) ja_M_in_6 rfl rfl ?_
                            refine q_ic_gt (pc' := 10) ja_M_in_7 rfl ?_ ?_
                            · intro h73
                              refine q_iconst (pc' := 15) ja_M_in_14 rfl 0 (by decide) ?_
                              refine q_iret ja_M_in_15 rfl (by decide) ?_
                              show q_W _ _ _ _ 100 [some (.ref 146), some (.int a1), some (.int a2), some (.int a3), some (.int a4)] [.int 0] s
                              refine q_if_eq (pc' := 103) ja_M_isAct_100 rfl (fun _ => ?_) (fun h => absurd ((by decide : (0 : Int32) = 0)) h)
                              refine q_iconst (pc' := 108) ja_M_isAct_107 rfl 0 (by decide) ?_
                              exact q_iret ja_M_isAct_108 rfl (by decide) (k39 h2 h4 h6 h8 h48 h60 h62 h64 h65 h67 h69 h70 h72 h73)
                            · intro h74
                              refine q_iconst (pc' := 11) ja_M_in_10 rfl 1 (by decide) ?_
                              refine q_goto ja_M_in_11 ?_
                              refine q_iret ja_M_in_15 rfl (by decide) ?_
                              show q_W _ _ _ _ 100 [some (.ref 146), some (.int a1), some (.int a2), some (.int a3), some (.int a4)] [.int 1] s
                              refine q_if_eq (pc' := 103) ja_M_isAct_100 rfl (fun h => absurd h ((by decide : ¬ (1 : Int32) = 0))) (fun _ => ?_)
                              refine q_iconst (pc' := 104) ja_M_isAct_103 rfl 1 (by decide) ?_
                              refine q_goto ja_M_isAct_104 ?_
                              exact q_iret ja_M_isAct_108 rfl (by decide) (k40 h2 h4 h6 h8 h48 h60 h62 h64 h65 h67 h69 h70 h72 h74)
                        · intro h75
                          refine q_iconst (pc' := 92) ja_M_isAct_91 rfl 0 (by decide) ?_
                          refine q_goto ja_M_isAct_92 ?_
                          refine q_isub (pc' := 97) ja_M_isAct_96 rfl ?_
                          refine q_stat (pc' := 100) (as := [.int a3, .int 0, .int ((s 153 (s 146 13).toNatClampNeg) - 0)]) (r := []) ja_M_isAct_97 rfl (by decide) rfl rfl ?_
                          refine q_in (M := jm_M_in) rfl (Nat.le_of_ble_eq_true rfl) (ls := [some (.int a3), some (.int 0), some (.int ((s 153 (s 146 13).toNatClampNeg) - 0))]) rfl ?_
                          refine q_iload_n (pc' := 1) ja_M_in_0 rfl rfl ?_
                          refine q_iload_n (pc' := 2) ja_M_in_1 rfl rfl ?_
                          refine q_ic_lt (pc' := 5) ja_M_in_2 rfl ?_ ?_
                          · intro h76
                            refine q_iconst (pc' := 15) ja_M_in_14 rfl 0 (by decide) ?_
                            refine q_iret ja_M_in_15 rfl (by decide) ?_
                            show q_W _ _ _ _ 100 [some (.ref 146), some (.int a1), some (.int a2), some (.int a3), some (.int a4)] [.int 0] s
                            refine q_if_eq (pc' := 103) ja_M_isAct_100 rfl (fun _ => ?_) (fun h => absurd ((by decide : (0 : Int32) = 0)) h)
                            refine q_iconst (pc' := 108) ja_M_isAct_107 rfl 0 (by decide) ?_
                            exact q_iret ja_M_isAct_108 rfl (by decide) (k41 h2 h4 h6 h8 h48 h60 h62 h64 h65 h67 h69 h75 h76)
                          · intro h77
                            refine q_iload_n (pc' := 6) ja_M_in_5 rfl rfl ?_
                            refine q_iload_n (pc' := 7) ja_M_in_6 rfl rfl ?_
                            refine q_ic_gt (pc' := 10) ja_M_in_7 rfl ?_ ?_
                            · intro h78
                              refine q_iconst (pc' := 15) ja_M_in_14 rfl 0 (by decide) ?_
                              refine q_iret ja_M_in_15 rfl (by decide) ?_
                              show q_W _ _ _ _ 100 [some (.ref 146), some (.int a1), some (.int a2), some (.int a3), some (.int a4)] [.int 0] s
                              refine q_if_eq (pc' := 103) ja_M_isAct_100 rfl (fun _ => ?_) (fun h => absurd ((by decide : (0 : Int32) = 0)) h)
                              refine q_iconst (pc' := 108) ja_M_isAct_107 rfl 0 (by decide) ?_
                              exact q_iret ja_M_isAct_108 rfl (by decide) (k42 h2 h4 h6 h8 h48 h60 h62 h64 h65 h67 h69 h75 h77 h78)
                            · intro h79
                              refine q_iconst (pc' := 11) ja_M_in_10 rfl 1 (by decide) ?_
                              refine q_goto ja_M_in_11 ?_
                              refine q_iret ja_M_in_15 rfl (by decide) ?_
                              show q_W _ _ _ _ 100 [some (.ref 146), some (.int a1), some (.int a2), some (.int a3), some (.int a4)] [.int 1] s
                              refine q_if_eq (pc' := 103) ja_M_isAct_100 rfl (fun h => absurd h ((by decide : ¬ (1 : Int32) = 0))) (fun _ => ?_)
                              refine q_iconst (pc' := 104) ja_M_isAct_103 rfl 1 (by decide) ?_
                              refine q_goto ja_M_isAct_104 ?_
                              exact q_iret ja_M_isAct_108 rfl (by decide) (k43 h2 h4 h6 h8 h48 h60 h62 h64 h65 h67 h69 h75 h77 h79)
                  · intro h80
                    refine q_iload (pc' := 43) ja_M_isAct_41 rfl rfl ?_
                    refine q_iconst (pc' := 44) ja_M_isAct_43 rfl 0 (by decide) ?_
                    refine q_aload_n (pc' := 45) ja_M_isAct_44 rfl rfl ?_
                    refine q_getf (pc' := 48) (v := .int (s 146 14)) ja_M_isAct_45 rfl (by decide) ⟨rfl, by decide⟩ rfl ?_
                    refine q_iconst (pc' := 49) ja_M_isAct_48 rfl 1 (by decide) ?_
                    refine q_isub (pc' := 50) ja_M_isAct_49 rfl ?_
                    refine q_stat (pc' := 53) (as := [.int a4, .int 0, .int ((s 146 14) - 1)]) (r := []) ja_M_isAct_50 rfl (by decide) rfl rfl ?_
                    refine q_in (M := jm_M_in) rfl (Nat.le_of_ble_eq_true rfl) (ls := [some (.int a4), some (.int 0), some (.int ((s 146 14) - 1))]) rfl ?_
                    refine q_iload_n (pc' := 1) ja_M_in_0 rfl rfl ?_
                    refine q_iload_n (pc' := 2) ja_M_in_1 rfl rfl ?_
                    refine q_ic_lt (pc' := 5) ja_M_in_2 rfl ?_ ?_
                    · intro h81
                      refine q_iconst (pc' := 15) ja_M_in_14 rfl 0 (by decide) ?_
                      refine q_iret ja_M_in_15 rfl (by decide) ?_
                      show q_W _ _ _ _ 53 [some (.ref 146), some (.int a1), some (.int a2), some (.int a3), some (.int a4)] [.int 0] s
                      refine q_if_ne (pc' := 56) ja_M_isAct_53 rfl (fun h => absurd ((by decide : (0 : Int32) = 0)) h) (fun _ => ?_)
                      refine q_iconst (pc' := 57) ja_M_isAct_56 rfl 0 (by decide) ?_
                      exact q_iret ja_M_isAct_57 rfl (by decide) (k44 h2 h4 h6 h8 h48 h60 h62 h64 h80 h81)
                    · intro h82
                      refine q_iload_n (pc' := 6) ja_M_in_5 rfl rfl ?_
                      refine q_iload_n (pc' := 7) ja_M_in_6 rfl rfl ?_
                      refine q_ic_gt (pc' := 10) ja_M_in_7 rfl ?_ ?_
                      · intro h83
                        refine q_iconst (pc' := 15) ja_M_in_14 rfl 0 (by decide) ?_
                        refine q_iret ja_M_in_15 rfl (by decide) ?_
                        show q_W _ _ _ _ 53 [some (.ref 146), some (.int a1), some (.int a2), some (.int a3), some (.int a4)] [.int 0] s
                        refine q_if_ne (pc' := 56) ja_M_isAct_53 rfl (fun h => absurd ((by decide : (0 : Int32) = 0)) h) (fun _ => ?_)
                        refine q_iconst (pc' := 57) ja_M_isAct_56 rfl 0 (by decide) ?_
                        exact q_iret ja_M_isAct_57 rfl (by decide) (k45 h2 h4 h6 h8 h48 h60 h62 h64 h80 h82 h83)
                      · intro h84
                        refine q_iconst (pc' := 11) ja_M_in_10 rfl 1 (by decide) ?_
                        refine q_goto ja_M_in_11 ?_
                        refine q_iret ja_M_in_15 rfl (by decide) ?_
                        show q_W _ _ _ _ 53 [some (.ref 146), some (.int a1), some (.int a2), some (.int a3), some (.int a4)] [.int 1] s
                        refine q_if_ne (pc' := 56) ja_M_isAct_53 rfl (fun _ => ?_) (fun h => absurd h ((by decide : ¬ (1 : Int32) = 0)))
                        refine q_iload_n (pc' := 59) ja_M_isAct_58 rfl rfl ?_
                        refine q_iconst (pc' := 60) ja_M_isAct_59 rfl 1 (by decide) ?_
                        refine q_iconst (pc' := 61) ja_M_isAct_60 rfl 3 (by decide) ?_
                        refine q_stat (pc' := 64) (as := [.int a1, .int 1, .int 3]) (r := []) ja_M_isAct_61 rfl (by decide) rfl rfl ?_
                        refine q_in (M := jm_M_in) rfl (Nat.le_of_ble_eq_true rfl) (ls := [some (.int a1), some (.int 1), some (.int 3)]) rfl ?_
                        refine q_iload_n (pc' := 1) ja_M_in_0 rfl rfl ?_
                        refine q_iload_n (pc' := 2) ja_M_in_1 rfl rfl ?_
                        refine q_ic_lt (pc' := 5) ja_M_in_2 rfl ?_ ?_
                        · intro h85
                          refine q_iconst (pc' := 15) ja_M_in_14 rfl 0 (by decide) ?_
                          refine q_iret ja_M_in_15 rfl (by decide) ?_
                          show q_W _ _ _ _ 64 [some (.ref 146), some (.int a1), some (.int a2), some (.int a3), some (.int a4)] [.int 0] s
                          refine q_if_eq (pc' := 67) ja_M_isAct_64 rfl (fun _ => ?_) (fun h => absurd ((by decide : (0 : Int32) = 0)) h)
                          refine q_iconst (pc' := 104) ja_M_isAct_103 rfl 1 (by decide) ?_
                          refine q_goto ja_M_isAct_104 ?_
                          exact q_iret ja_M_isAct_108 rfl (by decide) (k46 h2 h4 h6 h8 h48 h60 h62 h64 h80 h82 h84 h85)
                        · intro h86
                          refine q_iload_n (pc' := 6) ja_M_in_5 rfl rfl ?_
                          refine q_iload_n (pc' := 7) ja_M_in_6 rfl rfl ?_
                          refine q_ic_gt (pc' := 10) ja_M_in_7 rfl (fun h => absurd (h60) h) (fun _ => ?_)
                          refine q_iconst (pc' := 11) ja_M_in_10 rfl 1 (by decide) ?_
                          refine q_goto ja_M_in_11 ?_
                          refine q_iret ja_M_in_15 rfl (by decide) ?_
                          show q_W _ _ _ _ 64 [some (.ref 146), some (.int a1), some (.int a2), some (.int a3), some (.int a4)] [.int 1] s
                          refine q_if_eq (pc' := 67) ja_M_isAct_64 rfl (fun h => absurd h ((by decide : ¬ (1 : Int32) = 0))) (fun _ => ?_)
                          refine q_aload_n (pc' := 68) ja_M_isAct_67 rfl rfl ?_
                          refine q_getf (pc' := 71) (v := .int (s 146 13)) ja_M_isAct_68 rfl (by decide) ⟨rfl, by decide⟩ rfl ?_
                          refine q_iconst (pc' := 72) ja_M_isAct_71 rfl (-1) (by decide) ?_
                          refine q_ic_eq (pc' := 75) ja_M_isAct_72 rfl ?_ ?_
                          · intro h87
                            refine q_iconst (pc' := 104) ja_M_isAct_103 rfl 1 (by decide) ?_
                            refine q_goto ja_M_isAct_104 ?_
                            exact q_iret ja_M_isAct_108 rfl (by decide) (k47 h2 h4 h6 h8 h48 h60 h62 h64 h80 h82 h84 h86 h87)
                          · intro h88
                            refine q_iload_n (pc' := 76) ja_M_isAct_75 rfl rfl ?_
                            refine q_iconst (pc' := 77) ja_M_isAct_76 rfl 0 (by decide) ?_
                            refine q_aload_n (pc' := 78) ja_M_isAct_77 rfl rfl ?_
                            refine q_getf (pc' := 81) (v := .ref 153) ja_M_isAct_78 rfl (by decide) ⟨rfl, by decide⟩ rfl ?_
                            refine q_aload_n (pc' := 82) ja_M_isAct_81 rfl rfl ?_
                            refine q_getf (pc' := 85) (v := .int (s 146 13)) ja_M_isAct_82 rfl (by decide) ⟨rfl, by decide⟩ rfl ?_
                            refine q_iald (pc' := 86) (v := .int (s 153 (s 146 13).toNatClampNeg)) ja_M_isAct_85 rfl (by decide) (l := 8) rfl (k48 h2 h4 h6 h8 h48 h60 h62 h64 h80 h82 h84 h86 h88) rfl ?_
                            refine q_iload_n (pc' := 87) ja_M_isAct_86 rfl rfl ?_
                            refine q_iconst (pc' := 88) ja_M_isAct_87 rfl 2 (by decide) ?_
                            refine q_ic_ne (pc' := 91) ja_M_isAct_88 rfl ?_ ?_
                            · intro h89
                              refine q_iconst (pc' := 96) ja_M_isAct_95 rfl 1 (by decide) ?_
                              refine q_isub (pc' := 97) ja_M_isAct_96 rfl ?_
                              refine q_stat (pc' := 100) (as := [.int a3, .int 0, .int ((s 153 (s 146 13).toNatClampNeg) - 1)]) (r := []) ja_M_isAct_97 rfl (by decide) rfl rfl ?_
                              refine q_in (M := jm_M_in) rfl (Nat.le_of_ble_eq_true rfl) (ls := [some (.int a3), some (.int 0), some (.int ((s 153 (s 146 13).toNatClampNeg) - 1))]) rfl ?_
                              refine q_iload_n (pc' := 1) ja_M_in_0 rfl rfl ?_
                              refine q_iload_n (pc' := 2) ja_M_in_1 rfl rfl ?_
                              refine q_ic_lt (pc' := 5) ja_M_in_2 rfl ?_ ?_
                              · intro h90
                                refine q_iconst (pc' := 15) ja_M_in_14 rfl 0 (by decide) ?_
                                refine q_iret ja_M_in_15 rfl (by decide) ?_
                                show q_W _ _ _ _ 100 [some (.ref 146), some (.int a1), some (.int a2), some (.int a3), some (.int a4)] [.int 0] s
                                refine q_if_eq (pc' := 103) ja_M_isAct_100 rfl (fun _ => ?_) (fun h => absurd ((by decide : (0 : Int32) = 0)) h)
                                refine q_iconst (pc' := 108) ja_M_isAct_107 rfl 0 (by decide) ?_
                                exact q_iret ja_M_isAct_108 rfl (by decide) (k49 h2 h4 h6 h8 h48 h60 h62 h64 h80 h82 h84 h86 h88 h89 h90)
                              · intro h91
                                refine q_iload_n (pc' := 6) ja_M_in_5 rfl rfl ?_
                                refine q_iload_n (pc' := 7) ja_M_in_6 rfl rfl ?_
                                refine q_ic_gt (pc' := 10) ja_M_in_7 rfl ?_ ?_
                                · intro h92
                                  refine q_iconst (pc' := 15) ja_M_in_14 rfl 0 (by decide) ?_
                                  refine q_iret ja_M_in_15 rfl (by decide) ?_
                                  show q_W _ _ _ _ 100 [some (.ref 146), some (.int a1), some (.int a2), some (.int a3), some (.int a4)] [.int 0] s
                                  refine q_if_eq (pc' := 103) ja_M_isAct_100 rfl (fun _ => ?_) (fun h => absurd ((by decide : (0 : Int32) = 0)) h)
                                  refine q_iconst (pc' := 108) ja_M_isAct_107 rfl 0 (by decide) ?_
                                  exact q_iret ja_M_isAct_108 rfl (by decide) (k50 h2 h4 h6 h8 h48 h60 h62 h64 h80 h82 h84 h86 h88 h89 h91 h92)
                                · intro h93
                                  refine q_iconst (pc' := 11) ja_M_in_10 rfl 1 (by decide) ?_
                                  refine q_goto ja_M_in_11 ?_
                                  refine q_iret ja_M_in_15 rfl (by decide) ?_
                                  show q_W _ _ _ _ 100 [some (.ref 146), some (.int a1), some (.int a2), some (.int a3), some (.int a4)] [.int 1] s
                                  refine q_if_eq (pc' := 103) ja_M_isAct_100 rfl (fun h => absurd h ((by decide : ¬ (1 : Int32) = 0))) (fun _ => ?_)
                                  refine q_iconst (pc' := 104) ja_M_isAct_103 rfl 1 (by decide) ?_
                                  refine q_goto ja_M_isAct_104 ?_
                                  exact q_iret ja_M_isAct_108 rfl (by decide) (k51 h2 h4 h6 h8 h48 h60 h62 h64 h80 h82 h84 h86 h88 h89 h91 h93)
                            · intro h94
                              refine q_iconst (pc' := 92) ja_M_isAct_91 rfl 0 (by decide) ?_
                              refine q_goto ja_M_isAct_92 ?_
                              refine q_isub (pc' := 97) ja_M_isAct_96 rfl ?_
                              refine q_stat (pc' := 100) (as := [.int a3, .int 0, .int ((s 153 (s 146 13).toNatClampNeg) - 0)]) (r := []) ja_M_isAct_97 rfl (by decide) rfl rfl ?_
                              refine q_in (M := jm_M_in) rfl (Nat.le_of_ble_eq_true rfl) (ls := [some (.int a3), some (.int 0), some (.int ((s 153 (s 146 13).toNatClampNeg) - 0))]) rfl ?_
                              refine q_iload_n (pc' := 1) ja_M_in_0 rfl rfl ?_
                              refine q_iload_n (pc' := 2) ja_M_in_1 rfl rfl ?_
                              refine q_ic_lt (pc' := 5) ja_M_in_2 rfl ?_ ?_
                              · intro h95
                                refine q_iconst (pc' := 15) ja_M_in_14 rfl 0 (by decide) ?_
                                refine q_iret ja_M_in_15 rfl (by decide) ?_
                                show q_W _ _ _ _ 100 [some (.ref 146), some (.int a1), some (.int a2), some (.int a3), some (.int a4)] [.int 0] s
                                refine q_if_eq (pc' := 103) ja_M_isAct_100 rfl (fun _ => ?_) (fun h => absurd ((by decide : (0 : Int32) = 0)) h)
                                refine q_iconst (pc' := 108) ja_M_isAct_107 rfl 0 (by decide) ?_
                                exact q_iret ja_M_isAct_108 rfl (by decide) (k52 h2 h4 h6 h8 h48 h60 h62 h64 h80 h82 h84 h86 h88 h94 h95)
                              · intro h96
                                refine q_iload_n (pc' := 6) ja_M_in_5 rfl rfl ?_
                                refine q_iload_n (pc' := 7) ja_M_in_6 rfl rfl ?_
                                refine q_ic_gt (pc' := 10) ja_M_in_7 rfl ?_ ?_
                                · intro h97
                                  refine q_iconst (pc' := 15) ja_M_in_14 rfl 0 (by decide) ?_
                                  refine q_iret ja_M_in_15 rfl (by decide) ?_
                                  show q_W _ _ _ _ 100 [some (.ref 146), some (.int a1), some (.int a2), some (.int a3), some (.int a4)] [.int 0] s
                                  refine q_if_eq (pc' := 103) ja_M_isAct_100 rfl (fun _ => ?_) (fun h => absurd ((by decide : (0 : Int32) = 0)) h)
                                  refine q_iconst (pc' := 108) ja_M_isAct_107 rfl 0 (by decide) ?_
                                  exact q_iret ja_M_isAct_108 rfl (by decide) (k53 h2 h4 h6 h8 h48 h60 h62 h64 h80 h82 h84 h86 h88 h94 h96 h97)
                                · intro h98
                                  refine q_iconst (pc' := 11) ja_M_in_10 rfl 1 (by decide) ?_
                                  refine q_goto ja_M_in_11 ?_
                                  refine q_iret ja_M_in_15 rfl (by decide) ?_
                                  show q_W _ _ _ _ 100 [some (.ref 146), some (.int a1), some (.int a2), some (.int a3), some (.int a4)] [.int 1] s
                                  refine q_if_eq (pc' := 103) ja_M_isAct_100 rfl (fun h => absurd h ((by decide : ¬ (1 : Int32) = 0))) (fun _ => ?_)
                                  refine q_iconst (pc' := 104) ja_M_isAct_103 rfl 1 (by decide) ?_
                                  refine q_goto ja_M_isAct_104 ?_
                                  exact q_iret ja_M_isAct_108 rfl (by decide) (k54 h2 h4 h6 h8 h48 h60 h62 h64 h80 h82 h84 h86 h88 h94 h96 h98)
set_option maxRecDepth 20000 in
theorem t_M_isBill {G : jv_X} {d : Nat} {B : Option Value → jg_H → Prop} {s : jg_H} (a1 : Int32)
    (k1 : a1 < 0 → B (some (.int 0)) s)
    (k2 : ¬ a1 < 0 → ¬ a1 ≤ ((s 146 6) - 1) → B (some (.int 0)) s)
    (k3 : ¬ a1 < 0 → a1 ≤ ((s 146 6) - 1) → B (some (.int 1)) s) :
    q_P G (d + 2) 163 [.ref 146, .int a1] s B := by
  refine q_in (M := jm_M_isBill) rfl (Nat.le_of_ble_eq_true rfl) (ls := [some (.ref 146), some (.int a1)]) rfl ?_
  refine q_iload_n (pc' := 1) ja_M_isBill_0 rfl rfl ?_
  refine q_iconst (pc' := 2) ja_M_isBill_1 rfl 0 (by decide) ?_
  refine q_aload_n (pc' := 3) ja_M_isBill_2 rfl rfl ?_
  refine q_getf (pc' := 6) (v := .int (s 146 6)) ja_M_isBill_3 rfl (by decide) ⟨rfl, by decide⟩ rfl ?_
  refine q_iconst (pc' := 7) ja_M_isBill_6 rfl 1 (by decide) ?_
  refine q_isub (pc' := 8) ja_M_isBill_7 rfl ?_
  refine q_stat (pc' := 11) (as := [.int a1, .int 0, .int ((s 146 6) - 1)]) (r := []) ja_M_isBill_8 rfl (by decide) rfl rfl ?_
  refine q_in (M := jm_M_in) rfl (Nat.le_of_ble_eq_true rfl) (ls := [some (.int a1), some (.int 0), some (.int ((s 146 6) - 1))]) rfl ?_
  refine q_iload_n (pc' := 1) ja_M_in_0 rfl rfl ?_
  refine q_iload_n (pc' := 2) ja_M_in_1 rfl rfl ?_
  refine q_ic_lt (pc' := 5) ja_M_in_2 rfl ?_ ?_
  · intro h1
    refine q_iconst (pc' := 15) ja_M_in_14 rfl 0 (by decide) ?_
    refine q_iret ja_M_in_15 rfl (by decide) ?_
    show q_W _ _ _ _ 11 [some (.ref 146), some (.int a1)] [.int 0] s
    exact q_iret ja_M_isBill_11 rfl (by decide) (k1 h1)
  · intro h2
    refine q_iload_n (pc' := 6) ja_M_in_5 rfl rfl ?_
    refine q_iload_n (pc' := 7) ja_M_in_6 rfl rfl ?_
    refine q_ic_gt (pc' := 10) ja_M_in_7 rfl ?_ ?_
    · intro h3
      refine q_iconst (pc' := 15) ja_M_in_14 rfl 0 (by decide) ?_
      refine q_iret ja_M_in_15 rfl (by decide) ?_
      show q_W _ _ _ _ 11 [some (.ref 146), some (.int a1)] [.int 0] s
      exact q_iret ja_M_isBill_11 rfl (by decide) (k2 h2 h3)
    · intro h4
      refine q_iconst (pc' := 11) ja_M_in_10 rfl 1 (by decide) ?_
      refine q_goto ja_M_in_11 ?_
      refine q_iret ja_M_in_15 rfl (by decide) ?_
      show q_W _ _ _ _ 11 [some (.ref 146), some (.int a1)] [.int 1] s
      exact q_iret ja_M_isBill_11 rfl (by decide) (k3 h2 h4)
set_option maxRecDepth 20000 in
theorem t_M_isDigit {G : jv_X} {d : Nat} {B : Option Value → jg_H → Prop} {s : jg_H} (a1 : Int32)
    (k1 : a1 < 48 → B (some (.int 0)) s)
    (k2 : ¬ a1 < 48 → ¬ a1 ≤ 57 → B (some (.int 0)) s)
    (k3 : ¬ a1 < 48 → a1 ≤ 57 → B (some (.int 1)) s) :
    q_P G (d + 1) 138 [.int a1] s B := by
  refine q_in (M := jm_M_isDigit) rfl (Nat.le_of_ble_eq_true rfl) (ls := [some (.int a1)]) rfl ?_
  refine q_iload_n (pc' := 1) ja_M_isDigit_0 rfl rfl ?_
  refine q_bipush (pc' := 3) ja_M_isDigit_1 rfl 48 (by decide) ?_
  refine q_ic_lt (pc' := 6) ja_M_isDigit_3 rfl ?_ ?_
  · intro h1
    refine q_iconst (pc' := 17) ja_M_isDigit_16 rfl 0 (by decide) ?_
    exact q_iret ja_M_isDigit_17 rfl (by decide) (k1 h1)
  · intro h2
    refine q_iload_n (pc' := 7) ja_M_isDigit_6 rfl rfl ?_
    refine q_bipush (pc' := 9) ja_M_isDigit_7 rfl 57 (by decide) ?_
    refine q_ic_gt (pc' := 12) ja_M_isDigit_9 rfl ?_ ?_
    · intro h3
      refine q_iconst (pc' := 17) ja_M_isDigit_16 rfl 0 (by decide) ?_
      exact q_iret ja_M_isDigit_17 rfl (by decide) (k2 h2 h3)
    · intro h4
      refine q_iconst (pc' := 13) ja_M_isDigit_12 rfl 1 (by decide) ?_
      refine q_goto ja_M_isDigit_13 ?_
      exact q_iret ja_M_isDigit_17 rfl (by decide) (k3 h2 h4)
set_option maxRecDepth 20000 in
theorem t_M_isDoable {G : jv_X} {d : Nat} {B : Option Value → jg_H → Prop} {s : jg_H} (a1 : Int32)
    (k1 : jv_in a1 13 = true)
    (k2 : (s 159 a1.toNatClampNeg) = (-1) → B (some (.int 0)) s)
    (k3 : ¬ (s 159 a1.toNatClampNeg) = (-1) → jv_in a1 13 = true)
    (k4 : ¬ (s 159 a1.toNatClampNeg) = (-1) → ¬ (s 157 a1.toNatClampNeg) = 2 → B (some (.int 1)) s)
    (k5 : ¬ (s 159 a1.toNatClampNeg) = (-1) → (s 157 a1.toNatClampNeg) = 2 → ¬ (s 146 53) < 10 → B (some (.int 0)) s)
    (k6 : ¬ (s 159 a1.toNatClampNeg) = (-1) → (s 157 a1.toNatClampNeg) = 2 → (s 146 53) < 10 → B (some (.int 1)) s) :
    q_P G (d + 1) 194 [.ref 146, .int a1] s B := by
  refine q_in (M := jm_M_isDoable) rfl (Nat.le_of_ble_eq_true rfl) (ls := [some (.ref 146), some (.int a1)]) rfl ?_
  refine q_aload_n (pc' := 1) ja_M_isDoable_0 rfl rfl ?_
  refine q_getf (pc' := 4) (v := .ref 159) ja_M_isDoable_1 rfl (by decide) ⟨rfl, by decide⟩ rfl ?_
  refine q_iload_n (pc' := 5) ja_M_isDoable_4 rfl rfl ?_
  refine q_iald (pc' := 6) (v := .int (s 159 a1.toNatClampNeg)) ja_M_isDoable_5 rfl (by decide) (l := 13) rfl k1 rfl ?_
  refine q_iconst (pc' := 7) ja_M_isDoable_6 rfl (-1) (by decide) ?_
  refine q_ic_eq (pc' := 10) ja_M_isDoable_7 rfl ?_ ?_
  · intro h1
    refine q_iconst (pc' := 34) ja_M_isDoable_33 rfl 0 (by decide) ?_
    exact q_iret ja_M_isDoable_34 rfl (by decide) (k2 h1)
  · intro h2
    refine q_aload_n (pc' := 11) ja_M_isDoable_10 rfl rfl ?_
    refine q_getf (pc' := 14) (v := .ref 157) ja_M_isDoable_11 rfl (by decide) ⟨rfl, by decide⟩ rfl ?_
    refine q_iload_n (pc' := 15) ja_M_isDoable_14 rfl rfl ?_
    refine q_iald (pc' := 16) (v := .int (s 157 a1.toNatClampNeg)) ja_M_isDoable_15 rfl (by decide) (l := 13) rfl (k3 h2) rfl ?_
    refine q_iconst (pc' := 17) ja_M_isDoable_16 rfl 2 (by decide) ?_
    refine q_ic_ne (pc' := 20) ja_M_isDoable_17 rfl ?_ ?_
    · intro h3
      refine q_iconst (pc' := 30) ja_M_isDoable_29 rfl 1 (by decide) ?_
      refine q_goto ja_M_isDoable_30 ?_
      exact q_iret ja_M_isDoable_34 rfl (by decide) (k4 h2 h3)
    · intro h4
      refine q_aload_n (pc' := 21) ja_M_isDoable_20 rfl rfl ?_
      refine q_getf (pc' := 24) (v := .int (s 146 53)) ja_M_isDoable_21 rfl (by decide) ⟨rfl, by decide⟩ rfl ?_
      refine q_bipush (pc' := 26) ja_M_isDoable_24 rfl 10 (by decide) ?_
      refine q_ic_ge (pc' := 29) ja_M_isDoable_26 rfl ?_ ?_
      · intro h5
        refine q_iconst (pc' := 34) ja_M_isDoable_33 rfl 0 (by decide) ?_
        exact q_iret ja_M_isDoable_34 rfl (by decide) (k5 h2 h4 h5)
      · intro h6
        refine q_iconst (pc' := 30) ja_M_isDoable_29 rfl 1 (by decide) ?_
        refine q_goto ja_M_isDoable_30 ?_
        exact q_iret ja_M_isDoable_34 rfl (by decide) (k6 h2 h4 h6)
set_option maxRecDepth 20000 in
theorem t_M_isLetter {G : jv_X} {d : Nat} {B : Option Value → jg_H → Prop} {s : jg_H} (a1 : Int32)
    (k1 : a1 < 97 → B (some (.int 0)) s)
    (k2 : ¬ a1 < 97 → ¬ a1 ≤ 122 → B (some (.int 0)) s)
    (k3 : ¬ a1 < 97 → a1 ≤ 122 → B (some (.int 1)) s) :
    q_P G (d + 1) 136 [.int a1] s B := by
  refine q_in (M := jm_M_isLetter) rfl (Nat.le_of_ble_eq_true rfl) (ls := [some (.int a1)]) rfl ?_
  refine q_iload_n (pc' := 1) ja_M_isLetter_0 rfl rfl ?_
  refine q_bipush (pc' := 3) ja_M_isLetter_1 rfl 97 (by decide) ?_
  refine q_ic_lt (pc' := 6) ja_M_isLetter_3 rfl ?_ ?_
  · intro h1
    refine q_iconst (pc' := 17) ja_M_isLetter_16 rfl 0 (by decide) ?_
    exact q_iret ja_M_isLetter_17 rfl (by decide) (k1 h1)
  · intro h2
    refine q_iload_n (pc' := 7) ja_M_isLetter_6 rfl rfl ?_
    refine q_bipush (pc' := 9) ja_M_isLetter_7 rfl 122 (by decide) ?_
    refine q_ic_gt (pc' := 12) ja_M_isLetter_9 rfl ?_ ?_
    · intro h3
      refine q_iconst (pc' := 17) ja_M_isLetter_16 rfl 0 (by decide) ?_
      exact q_iret ja_M_isLetter_17 rfl (by decide) (k2 h2 h3)
    · intro h4
      refine q_iconst (pc' := 13) ja_M_isLetter_12 rfl 1 (by decide) ?_
      refine q_goto ja_M_isLetter_13 ?_
      exact q_iret ja_M_isLetter_17 rfl (by decide) (k3 h2 h4)
set_option maxRecDepth 20000 in
theorem t_M_isMember {G : jv_X} {d : Nat} {B : Option Value → jg_H → Prop} {s : jg_H} (a1 : Int32)
    (k1 : a1 < 0 → B (some (.int 0)) s)
    (k2 : ¬ a1 < 0 → ¬ a1 ≤ ((s 146 0) - 1) → B (some (.int 0)) s)
    (k3 : ¬ a1 < 0 → a1 ≤ ((s 146 0) - 1) → B (some (.int 1)) s) :
    q_P G (d + 2) 154 [.ref 146, .int a1] s B := by
  refine q_in (M := jm_M_isMember) rfl (Nat.le_of_ble_eq_true rfl) (ls := [some (.ref 146), some (.int a1)]) rfl ?_
  refine q_iload_n (pc' := 1) ja_M_isMember_0 rfl rfl ?_
  refine q_iconst (pc' := 2) ja_M_isMember_1 rfl 0 (by decide) ?_
  refine q_aload_n (pc' := 3) ja_M_isMember_2 rfl rfl ?_
  refine q_getf (pc' := 6) (v := .int (s 146 0)) ja_M_isMember_3 rfl (by decide) ⟨rfl, by decide⟩ rfl ?_
  refine q_iconst (pc' := 7) ja_M_isMember_6 rfl 1 (by decide) ?_
  refine q_isub (pc' := 8) ja_M_isMember_7 rfl ?_
  refine q_stat (pc' := 11) (as := [.int a1, .int 0, .int ((s 146 0) - 1)]) (r := []) ja_M_isMember_8 rfl (by decide) rfl rfl ?_
  refine q_in (M := jm_M_in) rfl (Nat.le_of_ble_eq_true rfl) (ls := [some (.int a1), some (.int 0), some (.int ((s 146 0) - 1))]) rfl ?_
  refine q_iload_n (pc' := 1) ja_M_in_0 rfl rfl ?_
  refine q_iload_n (pc' := 2) ja_M_in_1 rfl rfl ?_
  refine q_ic_lt (pc' := 5) ja_M_in_2 rfl ?_ ?_
  · intro h1
    refine q_iconst (pc' := 15) ja_M_in_14 rfl 0 (by decide) ?_
    refine q_iret ja_M_in_15 rfl (by decide) ?_
    show q_W _ _ _ _ 11 [some (.ref 146), some (.int a1)] [.int 0] s
    exact q_iret ja_M_isMember_11 rfl (by decide) (k1 h1)
  · intro h2
    refine q_iload_n (pc' := 6) ja_M_in_5 rfl rfl ?_
    refine q_iload_n (pc' := 7) ja_M_in_6 rfl rfl ?_
    refine q_ic_gt (pc' := 10) ja_M_in_7 rfl ?_ ?_
    · intro h3
      refine q_iconst (pc' := 15) ja_M_in_14 rfl 0 (by decide) ?_
      refine q_iret ja_M_in_15 rfl (by decide) ?_
      show q_W _ _ _ _ 11 [some (.ref 146), some (.int a1)] [.int 0] s
      exact q_iret ja_M_isMember_11 rfl (by decide) (k2 h2 h3)
    · intro h4
      refine q_iconst (pc' := 11) ja_M_in_10 rfl 1 (by decide) ?_
      refine q_goto ja_M_in_11 ?_
      refine q_iret ja_M_in_15 rfl (by decide) ?_
      show q_W _ _ _ _ 11 [some (.ref 146), some (.int a1)] [.int 1] s
      exact q_iret ja_M_isMember_11 rfl (by decide) (k3 h2 h4)
set_option maxRecDepth 20000 in
theorem t_M_isOrder {G : jv_X} {d : Nat} {B : Option Value → jg_H → Prop} {s : jg_H} (a1 : Int32)
    (k1 : q_W G d jm_M_isOrder B 7 [some (.ref 146), some (.int a1), some (.int a1), some (.int 0), some (.int 0)] [] s) :
    q_P G (d + 1) 207 [.ref 146, .int a1] s B := by
  refine q_in (M := jm_M_isOrder) rfl (Nat.le_of_ble_eq_true rfl) (ls := [some (.ref 146), some (.int a1), none, none, none]) rfl ?_
  refine q_iload_n (pc' := 1) ja_M_isOrder_0 rfl rfl ?_
  refine q_istore_n (pc' := 2) (ls' := [some (.ref 146), some (.int a1), some (.int a1), none, none]) ja_M_isOrder_1 rfl ⟨Nat.le_of_ble_eq_true rfl, rfl⟩ rfl ?_
  refine q_iconst (pc' := 3) ja_M_isOrder_2 rfl 0 (by decide) ?_
  refine q_istore_n (pc' := 4) (ls' := [some (.ref 146), some (.int a1), some (.int a1), some (.int 0), none]) ja_M_isOrder_3 rfl ⟨Nat.le_of_ble_eq_true rfl, rfl⟩ rfl ?_
  refine q_iconst (pc' := 5) ja_M_isOrder_4 rfl 0 (by decide) ?_
  refine q_istore (pc' := 7) (ls' := [some (.ref 146), some (.int a1), some (.int a1), some (.int 0), some (.int 0)]) ja_M_isOrder_5 rfl ⟨Nat.le_of_ble_eq_true rfl, rfl⟩ rfl ?_
  exact k1
set_option maxRecDepth 20000 in
theorem t_M_isOrder_7 {G : jv_X} {d : Nat} {B : Option Value → jg_H → Prop} {s : jg_H} (x1 : Int32) (x2 : Int32) (x3 : Int32) (x4 : Int32)
    (k1 : ¬ x4 < (s 146 19) → x1 < 0 → B (some (.int 0)) s)
    (k2 : ¬ x4 < (s 146 19) → ¬ x1 < 0 → ¬ x2 = 0 → B (some (.int 0)) s)
    (k3 : ¬ x4 < (s 146 19) → ¬ x1 < 0 → x2 = 0 → ¬ x3 = ((1 <<< ((s 146 19) &&& 31)) - 1) → B (some (.int 0)) s)
    (k4 : ¬ x4 < (s 146 19) → ¬ x1 < 0 → x2 = 0 → x3 = ((1 <<< ((s 146 19) &&& 31)) - 1) → B (some (.int 1)) s)
    (k5 : x4 < (s 146 19) → x1 < 0 → B (some (.int 0)) s)
    (k6 : x4 < (s 146 19) → ¬ x1 < 0 → ¬ (x2 - x2 / 6 * 6) < (s 146 19) → q_W G d jm_M_isOrder B 7 [some (.ref 146), some (.int x1), some (.int (x2 / 6)), some (.int (x3 ||| 0)), some (.int (x4 + 1))] [] s)
    (k7 : x4 < (s 146 19) → ¬ x1 < 0 → (x2 - x2 / 6 * 6) < (s 146 19) → q_W G d jm_M_isOrder B 7 [some (.ref 146), some (.int x1), some (.int (x2 / 6)), some (.int (x3 ||| (1 <<< ((x2 - x2 / 6 * 6) &&& 31)))), some (.int (x4 + 1))] [] s) :
    q_W G d jm_M_isOrder B 7 [some (.ref 146), some (.int x1), some (.int x2), some (.int x3), some (.int x4)] [] s := by
  refine q_iload (pc' := 9) ja_M_isOrder_7 rfl rfl ?_
  refine q_aload_n (pc' := 10) ja_M_isOrder_9 rfl rfl ?_
  refine q_getf (pc' := 13) (v := .int (s 146 19)) ja_M_isOrder_10 rfl (by decide) ⟨rfl, by decide⟩ rfl ?_
  refine q_ic_ge (pc' := 16) ja_M_isOrder_13 rfl ?_ ?_
  · intro h1
    refine q_iload_n (pc' := 56) ja_M_isOrder_55 rfl rfl ?_
    refine q_if_lt (pc' := 59) ja_M_isOrder_56 rfl ?_ ?_
    · intro h2
      refine q_iconst (pc' := 80) ja_M_isOrder_79 rfl 0 (by decide) ?_
      exact q_iret ja_M_isOrder_80 rfl (by decide) (k1 h1 h2)
    · intro h3
      refine q_iload_n (pc' := 60) ja_M_isOrder_59 rfl rfl ?_
      refine q_if_ne (pc' := 63) ja_M_isOrder_60 rfl ?_ ?_
      · intro h4
        refine q_iconst (pc' := 80) ja_M_isOrder_79 rfl 0 (by decide) ?_
        exact q_iret ja_M_isOrder_80 rfl (by decide) (k2 h1 h3 h4)
      · intro h5
        refine q_iload_n (pc' := 64) ja_M_isOrder_63 rfl rfl ?_
        refine q_iconst (pc' := 65) ja_M_isOrder_64 rfl 1 (by decide) ?_
        refine q_aload_n (pc' := 66) ja_M_isOrder_65 rfl rfl ?_
        refine q_getf (pc' := 69) (v := .int (s 146 19)) ja_M_isOrder_66 rfl (by decide) ⟨rfl, by decide⟩ rfl ?_
        refine q_ishl (pc' := 70) ja_M_isOrder_69 rfl ?_
        refine q_iconst (pc' := 71) ja_M_isOrder_70 rfl 1 (by decide) ?_
        refine q_isub (pc' := 72) ja_M_isOrder_71 rfl ?_
        refine q_ic_ne (pc' := 75) ja_M_isOrder_72 rfl ?_ ?_
        · intro h6
          refine q_iconst (pc' := 80) ja_M_isOrder_79 rfl 0 (by decide) ?_
          exact q_iret ja_M_isOrder_80 rfl (by decide) (k3 h1 h3 h5 h6)
        · intro h7
          refine q_iconst (pc' := 76) ja_M_isOrder_75 rfl 1 (by decide) ?_
          refine q_goto ja_M_isOrder_76 ?_
          exact q_iret ja_M_isOrder_80 rfl (by decide) (k4 h1 h3 h5 h7)
  · intro h8
    refine q_iload_n (pc' := 17) ja_M_isOrder_16 rfl rfl ?_
    refine q_if_lt (pc' := 20) ja_M_isOrder_17 rfl ?_ ?_
    · intro h9
      refine q_iload_n (pc' := 56) ja_M_isOrder_55 rfl rfl ?_
      refine q_if_lt (pc' := 59) ja_M_isOrder_56 rfl (fun _ => ?_) (fun h => absurd (h9) h)
      refine q_iconst (pc' := 80) ja_M_isOrder_79 rfl 0 (by decide) ?_
      exact q_iret ja_M_isOrder_80 rfl (by decide) (k5 h8 h9)
    · intro h10
      refine q_iload_n (pc' := 21) ja_M_isOrder_20 rfl rfl ?_
      refine q_iload_n (pc' := 22) ja_M_isOrder_21 rfl rfl ?_
      refine q_bipush (pc' := 24) ja_M_isOrder_22 rfl 6 (by decide) ?_
      refine q_irem (pc' := 25) ja_M_isOrder_24 rfl (by decide) ?_
      refine q_aload_n (pc' := 26) ja_M_isOrder_25 rfl rfl ?_
      refine q_getf (pc' := 29) (v := .int (s 146 19)) ja_M_isOrder_26 rfl (by decide) ⟨rfl, by decide⟩ rfl ?_
      refine q_ic_ge (pc' := 32) ja_M_isOrder_29 rfl ?_ ?_
      · intro h11
        refine q_iconst (pc' := 42) ja_M_isOrder_41 rfl 0 (by decide) ?_
        refine q_ior (pc' := 43) ja_M_isOrder_42 rfl ?_
        refine q_istore_n (pc' := 44) (ls' := [some (.ref 146), some (.int x1), some (.int x2), some (.int (x3 ||| 0)), some (.int x4)]) ja_M_isOrder_43 rfl ⟨Nat.le_of_ble_eq_true rfl, rfl⟩ rfl ?_
        refine q_iload_n (pc' := 45) ja_M_isOrder_44 rfl rfl ?_
        refine q_bipush (pc' := 47) ja_M_isOrder_45 rfl 6 (by decide) ?_
        refine q_idiv (pc' := 48) ja_M_isOrder_47 rfl (by decide) ?_
        refine q_istore_n (pc' := 49) (ls' := [some (.ref 146), some (.int x1), some (.int (x2 / 6)), some (.int (x3 ||| 0)), some (.int x4)]) ja_M_isOrder_48 rfl ⟨Nat.le_of_ble_eq_true rfl, rfl⟩ rfl ?_
        refine q_iinc (pc' := 52) (ls' := [some (.ref 146), some (.int x1), some (.int (x2 / 6)), some (.int (x3 ||| 0)), some (.int (x4 + 1))]) ja_M_isOrder_49 rfl rfl (x4 + 1) rfl ⟨Nat.le_of_ble_eq_true rfl, rfl⟩ rfl ?_
        refine q_goto ja_M_isOrder_52 ?_
        exact (k6 h8 h10 h11)
      · intro h12
        refine q_iconst (pc' := 33) ja_M_isOrder_32 rfl 1 (by decide) ?_
        refine q_iload_n (pc' := 34) ja_M_isOrder_33 rfl rfl ?_
        refine q_bipush (pc' := 36) ja_M_isOrder_34 rfl 6 (by decide) ?_
        refine q_irem (pc' := 37) ja_M_isOrder_36 rfl (by decide) ?_
        refine q_ishl (pc' := 38) ja_M_isOrder_37 rfl ?_
        refine q_goto ja_M_isOrder_38 ?_
        refine q_ior (pc' := 43) ja_M_isOrder_42 rfl ?_
        refine q_istore_n (pc' := 44) (ls' := [some (.ref 146), some (.int x1), some (.int x2), some (.int (x3 ||| (1 <<< ((x2 - x2 / 6 * 6) &&& 31)))), some (.int x4)]) ja_M_isOrder_43 rfl ⟨Nat.le_of_ble_eq_true rfl, rfl⟩ rfl ?_
        refine q_iload_n (pc' := 45) ja_M_isOrder_44 rfl rfl ?_
        refine q_bipush (pc' := 47) ja_M_isOrder_45 rfl 6 (by decide) ?_
        refine q_idiv (pc' := 48) ja_M_isOrder_47 rfl (by decide) ?_
        refine q_istore_n (pc' := 49) (ls' := [some (.ref 146), some (.int x1), some (.int (x2 / 6)), some (.int (x3 ||| (1 <<< ((x2 - x2 / 6 * 6) &&& 31)))), some (.int x4)]) ja_M_isOrder_48 rfl ⟨Nat.le_of_ble_eq_true rfl, rfl⟩ rfl ?_
        refine q_iinc (pc' := 52) (ls' := [some (.ref 146), some (.int x1), some (.int (x2 / 6)), some (.int (x3 ||| (1 <<< ((x2 - x2 / 6 * 6) &&& 31)))), some (.int (x4 + 1))]) ja_M_isOrder_49 rfl rfl (x4 + 1) rfl ⟨Nat.le_of_ble_eq_true rfl, rfl⟩ rfl ?_
        refine q_goto ja_M_isOrder_52 ?_
        exact (k7 h8 h10 h12)
set_option maxRecDepth 20000 in
theorem t_M_isTray {G : jv_X} {d : Nat} {B : Option Value → jg_H → Prop} {s : jg_H} (a1 : Int32)
    (k1 : a1 < 0 → B (some (.int 0)) s)
    (k2 : ¬ a1 < 0 → ¬ a1 ≤ 3 → B (some (.int 0)) s)
    (k3 : ¬ a1 < 0 → a1 ≤ 3 → B (some (.int 1)) s) :
    q_P G (d + 2) 216 [.int a1] s B := by
  refine q_in (M := jm_M_isTray) rfl (Nat.le_of_ble_eq_true rfl) (ls := [some (.int a1)]) rfl ?_
  refine q_iload_n (pc' := 1) ja_M_isTray_0 rfl rfl ?_
  refine q_iconst (pc' := 2) ja_M_isTray_1 rfl 0 (by decide) ?_
  refine q_iconst (pc' := 3) ja_M_isTray_2 rfl 3 (by decide) ?_
  refine q_stat (pc' := 6) (as := [.int a1, .int 0, .int 3]) (r := []) ja_M_isTray_3 rfl (by decide) rfl rfl ?_
  refine q_in (M := jm_M_in) rfl (Nat.le_of_ble_eq_true rfl) (ls := [some (.int a1), some (.int 0), some (.int 3)]) rfl ?_
  refine q_iload_n (pc' := 1) ja_M_in_0 rfl rfl ?_
  refine q_iload_n (pc' := 2) ja_M_in_1 rfl rfl ?_
  refine q_ic_lt (pc' := 5) ja_M_in_2 rfl ?_ ?_
  · intro h1
    refine q_iconst (pc' := 15) ja_M_in_14 rfl 0 (by decide) ?_
    refine q_iret ja_M_in_15 rfl (by decide) ?_
    show q_W _ _ _ _ 6 [some (.int a1)] [.int 0] s
    exact q_iret ja_M_isTray_6 rfl (by decide) (k1 h1)
  · intro h2
    refine q_iload_n (pc' := 6) ja_M_in_5 rfl rfl ?_
    refine q_iload_n (pc' := 7) ja_M_in_6 rfl rfl ?_
    refine q_ic_gt (pc' := 10) ja_M_in_7 rfl ?_ ?_
    · intro h3
      refine q_iconst (pc' := 15) ja_M_in_14 rfl 0 (by decide) ?_
      refine q_iret ja_M_in_15 rfl (by decide) ?_
      show q_W _ _ _ _ 6 [some (.int a1)] [.int 0] s
      exact q_iret ja_M_isTray_6 rfl (by decide) (k2 h2 h3)
    · intro h4
      refine q_iconst (pc' := 11) ja_M_in_10 rfl 1 (by decide) ?_
      refine q_goto ja_M_in_11 ?_
      refine q_iret ja_M_in_15 rfl (by decide) ?_
      show q_W _ _ _ _ 6 [some (.int a1)] [.int 1] s
      exact q_iret ja_M_isTray_6 rfl (by decide) (k3 h2 h4)
set_option maxRecDepth 20000 in
theorem t_M_isUpNoMore {G : jv_X} {d : Nat} {B : Option Value → jg_H → Prop} {s : jg_H} (a1 : Int32)
    (k1 : jv_in (s 146 13) 8 = true)
    (k2 : ∀ s1 : jg_H, s1 = jg_up s 152 (s 146 13).toNatClampNeg a1 → ¬ a1 = 0 → jv_in (s1 146 13) 8 = true)
    (k3 : ∀ s1 : jg_H, s1 = jg_up s 152 (s 146 13).toNatClampNeg a1 → ¬ a1 = 0 → jv_in (s1 146 13) 8 = true)
    (k4 : ∀ s1 : jg_H, s1 = jg_up s 152 (s 146 13).toNatClampNeg a1 → ¬ a1 = 0 → ∀ s2 : jg_H, s2 = jg_up s1 155 (s1 146 13).toNatClampNeg (s1 155 (s1 146 13).toNatClampNeg) → ∀ s3 : jg_H, s3 = jg_up s2 146 13 (-1) → ∀ s4 : jg_H, s4 = jg_up s3 146 18 0 → ∀ s5 : jg_H, s5 = jg_up s4 146 19 0 → B none s5)
    (k5 : ∀ s1 : jg_H, s1 = jg_up s 152 (s 146 13).toNatClampNeg a1 → a1 = 0 → jv_in (s1 146 13) 8 = true)
    (k6 : ∀ s1 : jg_H, s1 = jg_up s 152 (s 146 13).toNatClampNeg a1 → a1 = 0 → ∀ s6 : jg_H, s6 = jg_up s1 155 (s1 146 13).toNatClampNeg 0 → ∀ s7 : jg_H, s7 = jg_up s6 146 13 (-1) → ∀ s8 : jg_H, s8 = jg_up s7 146 18 0 → ∀ s9 : jg_H, s9 = jg_up s8 146 19 0 → B none s9) :
    q_P G (d + 1) 197 [.ref 146, .int a1] s B := by
  refine q_in (M := jm_M_isUpNoMore) rfl (Nat.le_of_ble_eq_true rfl) (ls := [some (.ref 146), some (.int a1)]) rfl ?_
  refine q_aload_n (pc' := 1) ja_M_isUpNoMore_0 rfl rfl ?_
  refine q_getf (pc' := 4) (v := .ref 152) ja_M_isUpNoMore_1 rfl (by decide) ⟨rfl, by decide⟩ rfl ?_
  refine q_aload_n (pc' := 5) ja_M_isUpNoMore_4 rfl rfl ?_
  refine q_getf (pc' := 8) (v := .int (s 146 13)) ja_M_isUpNoMore_5 rfl (by decide) ⟨rfl, by decide⟩ rfl ?_
  refine q_iload_n (pc' := 9) ja_M_isUpNoMore_8 rfl rfl ?_
  refine q_iast (pc' := 10) ja_M_isUpNoMore_9 rfl (by decide) (l := 8) rfl k1 ?_
  intro s1 e1
  refine q_aload_n (pc' := 11) ja_M_isUpNoMore_10 rfl rfl ?_
  refine q_getf (pc' := 14) (v := .ref 155) ja_M_isUpNoMore_11 rfl (by decide) ⟨rfl, by decide⟩ rfl ?_
  refine q_aload_n (pc' := 15) ja_M_isUpNoMore_14 rfl rfl ?_
  refine q_getf (pc' := 18) (v := .int (s1 146 13)) ja_M_isUpNoMore_15 rfl (by decide) ⟨rfl, by decide⟩ rfl ?_
  refine q_iload_n (pc' := 19) ja_M_isUpNoMore_18 rfl rfl ?_
  refine q_if_ne (pc' := 22) ja_M_isUpNoMore_19 rfl ?_ ?_
  · intro h1
    refine q_aload_n (pc' := 27) ja_M_isUpNoMore_26 rfl rfl ?_
    refine q_getf (pc' := 30) (v := .ref 155) ja_M_isUpNoMore_27 rfl (by decide) ⟨rfl, by decide⟩ rfl ?_
    refine q_aload_n (pc' := 31) ja_M_isUpNoMore_30 rfl rfl ?_
    refine q_getf (pc' := 34) (v := .int (s1 146 13)) ja_M_isUpNoMore_31 rfl (by decide) ⟨rfl, by decide⟩ rfl ?_
    refine q_iald (pc' := 35) (v := .int (s1 155 (s1 146 13).toNatClampNeg)) ja_M_isUpNoMore_34 rfl (by decide) (l := 8) rfl (k2 s1 e1 h1) rfl ?_
    refine q_iast (pc' := 36) ja_M_isUpNoMore_35 rfl (by decide) (l := 8) rfl (k3 s1 e1 h1) ?_
    intro s2 e2
    refine q_aload_n (pc' := 37) ja_M_isUpNoMore_36 rfl rfl ?_
    refine q_iconst (pc' := 38) ja_M_isUpNoMore_37 rfl (-1) (by decide) ?_
    refine q_putf (pc' := 41) ja_M_isUpNoMore_38 rfl (by decide) rfl rfl rfl ?_
    intro s3 e3
    refine q_aload_n (pc' := 42) ja_M_isUpNoMore_41 rfl rfl ?_
    refine q_iconst (pc' := 43) ja_M_isUpNoMore_42 rfl 0 (by decide) ?_
    refine q_putf (pc' := 46) ja_M_isUpNoMore_43 rfl (by decide) rfl rfl rfl ?_
    intro s4 e4
    refine q_aload_n (pc' := 47) ja_M_isUpNoMore_46 rfl rfl ?_
    refine q_iconst (pc' := 48) ja_M_isUpNoMore_47 rfl 0 (by decide) ?_
    refine q_putf (pc' := 51) ja_M_isUpNoMore_48 rfl (by decide) rfl rfl rfl ?_
    intro s5 e5
    exact q_vret ja_M_isUpNoMore_51 rfl (k4 s1 e1 h1 s2 e2 s3 e3 s4 e4 s5 e5)
  · intro h2
    refine q_iconst (pc' := 23) ja_M_isUpNoMore_22 rfl 0 (by decide) ?_
    refine q_goto ja_M_isUpNoMore_23 ?_
    refine q_iast (pc' := 36) ja_M_isUpNoMore_35 rfl (by decide) (l := 8) rfl (k5 s1 e1 h2) ?_
    intro s6 e6
    refine q_aload_n (pc' := 37) ja_M_isUpNoMore_36 rfl rfl ?_
    refine q_iconst (pc' := 38) ja_M_isUpNoMore_37 rfl (-1) (by decide) ?_
    refine q_putf (pc' := 41) ja_M_isUpNoMore_38 rfl (by decide) rfl rfl rfl ?_
    intro s7 e7
    refine q_aload_n (pc' := 42) ja_M_isUpNoMore_41 rfl rfl ?_
    refine q_iconst (pc' := 43) ja_M_isUpNoMore_42 rfl 0 (by decide) ?_
    refine q_putf (pc' := 46) ja_M_isUpNoMore_43 rfl (by decide) rfl rfl rfl ?_
    intro s8 e8
    refine q_aload_n (pc' := 47) ja_M_isUpNoMore_46 rfl rfl ?_
    refine q_iconst (pc' := 48) ja_M_isUpNoMore_47 rfl 0 (by decide) ?_
    refine q_putf (pc' := 51) ja_M_isUpNoMore_48 rfl (by decide) rfl rfl rfl ?_
    intro s9 e9
    exact q_vret ja_M_isUpNoMore_51 rfl (k6 s1 e1 h2 s6 e6 s7 e7 s8 e8 s9 e9)
set_option maxRecDepth 20000 in
theorem t_M_isWord {G : jv_X} {d : Nat} {B : Option Value → jg_H → Prop} {s : jg_H} (a1 : Int32)
    (k1 : a1 < 1 → B (some (.int 0)) s)
    (k2 : ¬ a1 < 1 → ¬ a1 ≤ 60 → B (some (.int 0)) s)
    (k3 : ¬ a1 < 1 → a1 ≤ 60 → B (some (.int 1)) s) :
    q_P G (d + 2) 155 [.int a1] s B := by
  refine q_in (M := jm_M_isWord) rfl (Nat.le_of_ble_eq_true rfl) (ls := [some (.int a1)]) rfl ?_
  refine q_iload_n (pc' := 1) ja_M_isWord_0 rfl rfl ?_
  refine q_iconst (pc' := 2) ja_M_isWord_1 rfl 1 (by decide) ?_
  refine q_bipush (pc' := 4) ja_M_isWord_2 rfl 60 (by decide) ?_
  refine q_stat (pc' := 7) (as := [.int a1, .int 1, .int 60]) (r := []) ja_M_isWord_4 rfl (by decide) rfl rfl ?_
  refine q_in (M := jm_M_in) rfl (Nat.le_of_ble_eq_true rfl) (ls := [some (.int a1), some (.int 1), some (.int 60)]) rfl ?_
  refine q_iload_n (pc' := 1) ja_M_in_0 rfl rfl ?_
  refine q_iload_n (pc' := 2) ja_M_in_1 rfl rfl ?_
  refine q_ic_lt (pc' := 5) ja_M_in_2 rfl ?_ ?_
  · intro h1
    refine q_iconst (pc' := 15) ja_M_in_14 rfl 0 (by decide) ?_
    refine q_iret ja_M_in_15 rfl (by decide) ?_
    show q_W _ _ _ _ 7 [some (.int a1)] [.int 0] s
    exact q_iret ja_M_isWord_7 rfl (by decide) (k1 h1)
  · intro h2
    refine q_iload_n (pc' := 6) ja_M_in_5 rfl rfl ?_
    refine q_iload_n (pc' := 7) ja_M_in_6 rfl rfl ?_
    refine q_ic_gt (pc' := 10) ja_M_in_7 rfl ?_ ?_
    · intro h3
      refine q_iconst (pc' := 15) ja_M_in_14 rfl 0 (by decide) ?_
      refine q_iret ja_M_in_15 rfl (by decide) ?_
      show q_W _ _ _ _ 7 [some (.int a1)] [.int 0] s
      exact q_iret ja_M_isWord_7 rfl (by decide) (k2 h2 h3)
    · intro h4
      refine q_iconst (pc' := 11) ja_M_in_10 rfl 1 (by decide) ?_
      refine q_goto ja_M_in_11 ?_
      refine q_iret ja_M_in_15 rfl (by decide) ?_
      show q_W _ _ _ _ 7 [some (.int a1)] [.int 1] s
      exact q_iret ja_M_isWord_7 rfl (by decide) (k3 h2 h4)
set_option maxRecDepth 20000 in
theorem t_M_isWrong {G : jv_X} {d : Nat} {B : Option Value → jg_H → Prop} {s : jg_H} 
    (k1 : (s 146 44) = (-1) → B (some (.int 0)) s)
    (k2 : ¬ (s 146 44) = (-1) → B (some (.int 1)) s) :
    q_P G (d + 1) 141 [.ref 146] s B := by
  refine q_in (M := jm_M_isWrong) rfl (Nat.le_of_ble_eq_true rfl) (ls := [some (.ref 146)]) rfl ?_
  refine q_aload_n (pc' := 1) ja_M_isWrong_0 rfl rfl ?_
  refine q_getf (pc' := 4) (v := .int (s 146 44)) ja_M_isWrong_1 rfl (by decide) ⟨rfl, by decide⟩ rfl ?_
  refine q_iconst (pc' := 5) ja_M_isWrong_4 rfl (-1) (by decide) ?_
  refine q_ic_eq (pc' := 8) ja_M_isWrong_5 rfl ?_ ?_
  · intro h1
    refine q_iconst (pc' := 13) ja_M_isWrong_12 rfl 0 (by decide) ?_
    exact q_iret ja_M_isWrong_13 rfl (by decide) (k1 h1)
  · intro h2
    refine q_iconst (pc' := 9) ja_M_isWrong_8 rfl 1 (by decide) ?_
    refine q_goto ja_M_isWrong_9 ?_
    exact q_iret ja_M_isWrong_13 rfl (by decide) (k2 h2)
set_option maxRecDepth 20000 in
theorem t_M_leans {G : jv_X} {d : Nat} {B : Option Value → jg_H → Prop} {s : jg_H} (a1 : Int32) (a2 : Int32)
    (k1 : jv_in a1 13 = true)
    (k2 : (s 157 a1.toNatClampNeg) = 0 → q_P G (d + 2) 170 [.ref 146, .int a2] s (fun v t => q_W G (d + 2) jm_M_leans B 53 [some (.ref 146), some (.int a1), some (.int a2)] (v.toList ++ []) t))
    (k3 : ¬ (s 157 a1.toNatClampNeg) = 0 → (s 157 a1.toNatClampNeg) = 4 → q_P G (d + 2) 170 [.ref 146, .int a2] s (fun v t => q_W G (d + 2) jm_M_leans B 59 [some (.ref 146), some (.int a1), some (.int a2)] (v.toList ++ []) t))
    (k4 : ¬ (s 157 a1.toNatClampNeg) = 0 → ¬ (s 157 a1.toNatClampNeg) = 4 → (s 157 a1.toNatClampNeg) = 5 → q_P G (d + 2) 170 [.ref 146, .int a2] s (fun v t => q_W G (d + 2) jm_M_leans B 66 [some (.ref 146), some (.int a1), some (.int a2)] (v.toList ++ []) t))
    (k5 : ¬ (s 157 a1.toNatClampNeg) = 0 → ¬ (s 157 a1.toNatClampNeg) = 4 → ¬ (s 157 a1.toNatClampNeg) = 5 → (s 157 a1.toNatClampNeg) = 6 → jv_in a2 15 = true)
    (k6 : ¬ (s 157 a1.toNatClampNeg) = 0 → ¬ (s 157 a1.toNatClampNeg) = 4 → ¬ (s 157 a1.toNatClampNeg) = 5 → (s 157 a1.toNatClampNeg) = 6 → jv_in a1 13 = true)
    (k7 : ¬ (s 157 a1.toNatClampNeg) = 0 → ¬ (s 157 a1.toNatClampNeg) = 4 → ¬ (s 157 a1.toNatClampNeg) = 5 → (s 157 a1.toNatClampNeg) = 6 → jv_in (s 158 a1.toNatClampNeg) 15 = true)
    (k8 : ¬ (s 157 a1.toNatClampNeg) = 0 → ¬ (s 157 a1.toNatClampNeg) = 4 → ¬ (s 157 a1.toNatClampNeg) = 5 → (s 157 a1.toNatClampNeg) = 6 → ¬ (s 147 a2.toNatClampNeg) = (s 147 (s 158 a1.toNatClampNeg).toNatClampNeg) → B (some (.int (-1))) s)
    (k9 : ¬ (s 157 a1.toNatClampNeg) = 0 → ¬ (s 157 a1.toNatClampNeg) = 4 → ¬ (s 157 a1.toNatClampNeg) = 5 → (s 157 a1.toNatClampNeg) = 6 → (s 147 a2.toNatClampNeg) = (s 147 (s 158 a1.toNatClampNeg).toNatClampNeg) → B (some (.int 1)) s)
    (k10 : ¬ (s 157 a1.toNatClampNeg) = 0 → ¬ (s 157 a1.toNatClampNeg) = 4 → ¬ (s 157 a1.toNatClampNeg) = 5 → ¬ (s 157 a1.toNatClampNeg) = 6 → jv_in a1 13 = true)
    (k11 : ¬ (s 157 a1.toNatClampNeg) = 0 → ¬ (s 157 a1.toNatClampNeg) = 4 → ¬ (s 157 a1.toNatClampNeg) = 5 → ¬ (s 157 a1.toNatClampNeg) = 6 → (s 159 a1.toNatClampNeg) = (-1) → B (some (.int 0)) s)
    (k12 : ¬ (s 157 a1.toNatClampNeg) = 0 → ¬ (s 157 a1.toNatClampNeg) = 4 → ¬ (s 157 a1.toNatClampNeg) = 5 → ¬ (s 157 a1.toNatClampNeg) = 6 → ¬ (s 159 a1.toNatClampNeg) = (-1) → jv_in a1 13 = true)
    (k13 : ¬ (s 157 a1.toNatClampNeg) = 0 → ¬ (s 157 a1.toNatClampNeg) = 4 → ¬ (s 157 a1.toNatClampNeg) = 5 → ¬ (s 157 a1.toNatClampNeg) = 6 → ¬ (s 159 a1.toNatClampNeg) = (-1) → ¬ (s 157 a1.toNatClampNeg) = 2 → jv_in a1 13 = true)
    (k14 : ¬ (s 157 a1.toNatClampNeg) = 0 → ¬ (s 157 a1.toNatClampNeg) = 4 → ¬ (s 157 a1.toNatClampNeg) = 5 → ¬ (s 157 a1.toNatClampNeg) = 6 → ¬ (s 159 a1.toNatClampNeg) = (-1) → ¬ (s 157 a1.toNatClampNeg) = 2 → jv_in a1 13 = true)
    (k15 : ¬ (s 157 a1.toNatClampNeg) = 0 → ¬ (s 157 a1.toNatClampNeg) = 4 → ¬ (s 157 a1.toNatClampNeg) = 5 → ¬ (s 157 a1.toNatClampNeg) = 6 → ¬ (s 159 a1.toNatClampNeg) = (-1) → ¬ (s 157 a1.toNatClampNeg) = 2 → (s 161 a1.toNatClampNeg) = 0 → jv_in a1 13 = true)
    (k16 : ¬ (s 157 a1.toNatClampNeg) = 0 → ¬ (s 157 a1.toNatClampNeg) = 4 → ¬ (s 157 a1.toNatClampNeg) = 5 → ¬ (s 157 a1.toNatClampNeg) = 6 → ¬ (s 159 a1.toNatClampNeg) = (-1) → ¬ (s 157 a1.toNatClampNeg) = 2 → (s 161 a1.toNatClampNeg) = 0 → jv_in (s 159 a1.toNatClampNeg) 11 = true)
    (k17 : ¬ (s 157 a1.toNatClampNeg) = 0 → ¬ (s 157 a1.toNatClampNeg) = 4 → ¬ (s 157 a1.toNatClampNeg) = 5 → ¬ (s 157 a1.toNatClampNeg) = 6 → ¬ (s 159 a1.toNatClampNeg) = (-1) → ¬ (s 157 a1.toNatClampNeg) = 2 → (s 161 a1.toNatClampNeg) = 0 → jv_in ((61 * a2) + (s 171 (s 159 a1.toNatClampNeg).toNatClampNeg)) 915 = true)
    (k18 : ¬ (s 157 a1.toNatClampNeg) = 0 → ¬ (s 157 a1.toNatClampNeg) = 4 → ¬ (s 157 a1.toNatClampNeg) = 5 → ¬ (s 157 a1.toNatClampNeg) = 6 → ¬ (s 159 a1.toNatClampNeg) = (-1) → ¬ (s 157 a1.toNatClampNeg) = 2 → (s 161 a1.toNatClampNeg) = 0 → jv_in a1 13 = true)
    (k19 : ¬ (s 157 a1.toNatClampNeg) = 0 → ¬ (s 157 a1.toNatClampNeg) = 4 → ¬ (s 157 a1.toNatClampNeg) = 5 → ¬ (s 157 a1.toNatClampNeg) = 6 → ¬ (s 159 a1.toNatClampNeg) = (-1) → ¬ (s 157 a1.toNatClampNeg) = 2 → (s 161 a1.toNatClampNeg) = 0 → ¬ (s 157 a1.toNatClampNeg) = 1 → jv_in a1 13 = true)
    (k20 : ¬ (s 157 a1.toNatClampNeg) = 0 → ¬ (s 157 a1.toNatClampNeg) = 4 → ¬ (s 157 a1.toNatClampNeg) = 5 → ¬ (s 157 a1.toNatClampNeg) = 6 → ¬ (s 159 a1.toNatClampNeg) = (-1) → ¬ (s 157 a1.toNatClampNeg) = 2 → (s 161 a1.toNatClampNeg) = 0 → ¬ (s 157 a1.toNatClampNeg) = 1 → jv_in ((61 * a2) + (s 160 a1.toNatClampNeg)) 915 = true)
    (k21 : ¬ (s 157 a1.toNatClampNeg) = 0 → ¬ (s 157 a1.toNatClampNeg) = 4 → ¬ (s 157 a1.toNatClampNeg) = 5 → ¬ (s 157 a1.toNatClampNeg) = 6 → ¬ (s 159 a1.toNatClampNeg) = (-1) → ¬ (s 157 a1.toNatClampNeg) = 2 → (s 161 a1.toNatClampNeg) = 0 → ¬ (s 157 a1.toNatClampNeg) = 1 → B (some (.int ((s 148 ((61 * a2) + (s 160 a1.toNatClampNeg)).toNatClampNeg) - (s 148 ((61 * a2) + (s 171 (s 159 a1.toNatClampNeg).toNatClampNeg)).toNatClampNeg)))) s)
    (k22 : ¬ (s 157 a1.toNatClampNeg) = 0 → ¬ (s 157 a1.toNatClampNeg) = 4 → ¬ (s 157 a1.toNatClampNeg) = 5 → ¬ (s 157 a1.toNatClampNeg) = 6 → ¬ (s 159 a1.toNatClampNeg) = (-1) → ¬ (s 157 a1.toNatClampNeg) = 2 → (s 161 a1.toNatClampNeg) = 0 → (s 157 a1.toNatClampNeg) = 1 → B (some (.int (0 - (s 148 ((61 * a2) + (s 171 (s 159 a1.toNatClampNeg).toNatClampNeg)).toNatClampNeg)))) s)
    (k23 : ¬ (s 157 a1.toNatClampNeg) = 0 → ¬ (s 157 a1.toNatClampNeg) = 4 → ¬ (s 157 a1.toNatClampNeg) = 5 → ¬ (s 157 a1.toNatClampNeg) = 6 → ¬ (s 159 a1.toNatClampNeg) = (-1) → ¬ (s 157 a1.toNatClampNeg) = 2 → ¬ (s 161 a1.toNatClampNeg) = 0 → jv_in (s 146 53) 11 = true)
    (k24 : ¬ (s 157 a1.toNatClampNeg) = 0 → ¬ (s 157 a1.toNatClampNeg) = 4 → ¬ (s 157 a1.toNatClampNeg) = 5 → ¬ (s 157 a1.toNatClampNeg) = 6 → ¬ (s 159 a1.toNatClampNeg) = (-1) → ¬ (s 157 a1.toNatClampNeg) = 2 → ¬ (s 161 a1.toNatClampNeg) = 0 → jv_in ((61 * a2) + (s 171 (s 146 53).toNatClampNeg)) 915 = true)
    (k25 : ¬ (s 157 a1.toNatClampNeg) = 0 → ¬ (s 157 a1.toNatClampNeg) = 4 → ¬ (s 157 a1.toNatClampNeg) = 5 → ¬ (s 157 a1.toNatClampNeg) = 6 → ¬ (s 159 a1.toNatClampNeg) = (-1) → ¬ (s 157 a1.toNatClampNeg) = 2 → ¬ (s 161 a1.toNatClampNeg) = 0 → jv_in a1 13 = true)
    (k26 : ¬ (s 157 a1.toNatClampNeg) = 0 → ¬ (s 157 a1.toNatClampNeg) = 4 → ¬ (s 157 a1.toNatClampNeg) = 5 → ¬ (s 157 a1.toNatClampNeg) = 6 → ¬ (s 159 a1.toNatClampNeg) = (-1) → ¬ (s 157 a1.toNatClampNeg) = 2 → ¬ (s 161 a1.toNatClampNeg) = 0 → ¬ (s 157 a1.toNatClampNeg) = 1 → jv_in a1 13 = true)
    (k27 : ¬ (s 157 a1.toNatClampNeg) = 0 → ¬ (s 157 a1.toNatClampNeg) = 4 → ¬ (s 157 a1.toNatClampNeg) = 5 → ¬ (s 157 a1.toNatClampNeg) = 6 → ¬ (s 159 a1.toNatClampNeg) = (-1) → ¬ (s 157 a1.toNatClampNeg) = 2 → ¬ (s 161 a1.toNatClampNeg) = 0 → ¬ (s 157 a1.toNatClampNeg) = 1 → jv_in ((61 * a2) + (s 160 a1.toNatClampNeg)) 915 = true)
    (k28 : ¬ (s 157 a1.toNatClampNeg) = 0 → ¬ (s 157 a1.toNatClampNeg) = 4 → ¬ (s 157 a1.toNatClampNeg) = 5 → ¬ (s 157 a1.toNatClampNeg) = 6 → ¬ (s 159 a1.toNatClampNeg) = (-1) → ¬ (s 157 a1.toNatClampNeg) = 2 → ¬ (s 161 a1.toNatClampNeg) = 0 → ¬ (s 157 a1.toNatClampNeg) = 1 → B (some (.int ((s 148 ((61 * a2) + (s 160 a1.toNatClampNeg)).toNatClampNeg) - (s 148 ((61 * a2) + (s 171 (s 146 53).toNatClampNeg)).toNatClampNeg)))) s)
    (k29 : ¬ (s 157 a1.toNatClampNeg) = 0 → ¬ (s 157 a1.toNatClampNeg) = 4 → ¬ (s 157 a1.toNatClampNeg) = 5 → ¬ (s 157 a1.toNatClampNeg) = 6 → ¬ (s 159 a1.toNatClampNeg) = (-1) → ¬ (s 157 a1.toNatClampNeg) = 2 → ¬ (s 161 a1.toNatClampNeg) = 0 → (s 157 a1.toNatClampNeg) = 1 → B (some (.int (0 - (s 148 ((61 * a2) + (s 171 (s 146 53).toNatClampNeg)).toNatClampNeg)))) s)
    (k30 : ¬ (s 157 a1.toNatClampNeg) = 0 → ¬ (s 157 a1.toNatClampNeg) = 4 → ¬ (s 157 a1.toNatClampNeg) = 5 → ¬ (s 157 a1.toNatClampNeg) = 6 → ¬ (s 159 a1.toNatClampNeg) = (-1) → (s 157 a1.toNatClampNeg) = 2 → ¬ (s 146 53) < 10 → B (some (.int 0)) s)
    (k31 : ¬ (s 157 a1.toNatClampNeg) = 0 → ¬ (s 157 a1.toNatClampNeg) = 4 → ¬ (s 157 a1.toNatClampNeg) = 5 → ¬ (s 157 a1.toNatClampNeg) = 6 → ¬ (s 159 a1.toNatClampNeg) = (-1) → (s 157 a1.toNatClampNeg) = 2 → (s 146 53) < 10 → jv_in a1 13 = true)
    (k32 : ¬ (s 157 a1.toNatClampNeg) = 0 → ¬ (s 157 a1.toNatClampNeg) = 4 → ¬ (s 157 a1.toNatClampNeg) = 5 → ¬ (s 157 a1.toNatClampNeg) = 6 → ¬ (s 159 a1.toNatClampNeg) = (-1) → (s 157 a1.toNatClampNeg) = 2 → (s 146 53) < 10 → jv_in a1 13 = true)
    (k33 : ¬ (s 157 a1.toNatClampNeg) = 0 → ¬ (s 157 a1.toNatClampNeg) = 4 → ¬ (s 157 a1.toNatClampNeg) = 5 → ¬ (s 157 a1.toNatClampNeg) = 6 → ¬ (s 159 a1.toNatClampNeg) = (-1) → (s 157 a1.toNatClampNeg) = 2 → (s 146 53) < 10 → ¬ (s 157 a1.toNatClampNeg) = 1 → jv_in a1 13 = true)
    (k34 : ¬ (s 157 a1.toNatClampNeg) = 0 → ¬ (s 157 a1.toNatClampNeg) = 4 → ¬ (s 157 a1.toNatClampNeg) = 5 → ¬ (s 157 a1.toNatClampNeg) = 6 → ¬ (s 159 a1.toNatClampNeg) = (-1) → (s 157 a1.toNatClampNeg) = 2 → (s 146 53) < 10 → ¬ (s 157 a1.toNatClampNeg) = 1 → jv_in ((61 * a2) + (s 160 a1.toNatClampNeg)) 915 = true)
    (k35 : ¬ (s 157 a1.toNatClampNeg) = 0 → ¬ (s 157 a1.toNatClampNeg) = 4 → ¬ (s 157 a1.toNatClampNeg) = 5 → ¬ (s 157 a1.toNatClampNeg) = 6 → ¬ (s 159 a1.toNatClampNeg) = (-1) → (s 157 a1.toNatClampNeg) = 2 → (s 146 53) < 10 → ¬ (s 157 a1.toNatClampNeg) = 1 → B (some (.int ((s 148 ((61 * a2) + (s 160 a1.toNatClampNeg)).toNatClampNeg) - 0))) s)
    (k36 : ¬ (s 157 a1.toNatClampNeg) = 0 → ¬ (s 157 a1.toNatClampNeg) = 4 → ¬ (s 157 a1.toNatClampNeg) = 5 → ¬ (s 157 a1.toNatClampNeg) = 6 → ¬ (s 159 a1.toNatClampNeg) = (-1) → (s 157 a1.toNatClampNeg) = 2 → (s 146 53) < 10 → (s 157 a1.toNatClampNeg) = 1 → B (some (.int 0)) s) :
    q_P G (d + 3) 192 [.ref 146, .int a1, .int a2] s B := by
  refine q_in (M := jm_M_leans) rfl (Nat.le_of_ble_eq_true rfl) (ls := [some (.ref 146), some (.int a1), some (.int a2)]) rfl ?_
  refine q_aload_n (pc' := 1) ja_M_leans_0 rfl rfl ?_
  refine q_getf (pc' := 4) (v := .ref 157) ja_M_leans_1 rfl (by decide) ⟨rfl, by decide⟩ rfl ?_
  refine q_iload_n (pc' := 5) ja_M_leans_4 rfl rfl ?_
  refine q_iald (pc' := 6) (v := .int (s 157 a1.toNatClampNeg)) ja_M_leans_5 rfl (by decide) (l := 13) rfl k1 rfl ?_
  by_cases h1 : (s 157 a1.toNatClampNeg) = 0
  · refine q_swE (pc' := 48) ja_M_leans_6 (by rw [h1]; decide) (by rw [h1]; exact ⟨_, rfl, rfl⟩) ?_
    refine q_aload_n (pc' := 49) ja_M_leans_48 rfl rfl ?_
    refine q_iload_n (pc' := 50) ja_M_leans_49 rfl rfl ?_
    refine q_virt (pc' := 53) (c := 146) (as := [.int a2]) (r := []) ja_M_leans_50 rfl rfl rfl (by decide) ⟨rfl, by decide⟩ ?_
    exact (k2 h1)
  by_cases h2 : (s 157 a1.toNatClampNeg) = 4
  · refine q_swE (pc' := 54) ja_M_leans_6 (by rw [h2]; decide) (by rw [h2]; exact ⟨_, rfl, rfl⟩) ?_
    refine q_aload_n (pc' := 55) ja_M_leans_54 rfl rfl ?_
    refine q_iload_n (pc' := 56) ja_M_leans_55 rfl rfl ?_
    refine q_virt (pc' := 59) (c := 146) (as := [.int a2]) (r := []) ja_M_leans_56 rfl rfl rfl (by decide) ⟨rfl, by decide⟩ ?_
    exact (k3 h1 h2)
  by_cases h3 : (s 157 a1.toNatClampNeg) = 5
  · refine q_swE (pc' := 61) ja_M_leans_6 (by rw [h3]; decide) (by rw [h3]; exact ⟨_, rfl, rfl⟩) ?_
    refine q_aload_n (pc' := 62) ja_M_leans_61 rfl rfl ?_
    refine q_iload_n (pc' := 63) ja_M_leans_62 rfl rfl ?_
    refine q_virt (pc' := 66) (c := 146) (as := [.int a2]) (r := []) ja_M_leans_63 rfl rfl rfl (by decide) ⟨rfl, by decide⟩ ?_
    exact (k4 h1 h2 h3)
  by_cases h4 : (s 157 a1.toNatClampNeg) = 6
  · refine q_swE (pc' := 75) ja_M_leans_6 (by rw [h4]; decide) (by rw [h4]; exact ⟨_, rfl, rfl⟩) ?_
    refine q_aload_n (pc' := 76) ja_M_leans_75 rfl rfl ?_
    refine q_getf (pc' := 79) (v := .ref 147) ja_M_leans_76 rfl (by decide) ⟨rfl, by decide⟩ rfl ?_
    refine q_iload_n (pc' := 80) ja_M_leans_79 rfl rfl ?_
    refine q_iald (pc' := 81) (v := .int (s 147 a2.toNatClampNeg)) ja_M_leans_80 rfl (by decide) (l := 15) rfl (k5 h1 h2 h3 h4) rfl ?_
    refine q_aload_n (pc' := 82) ja_M_leans_81 rfl rfl ?_
    refine q_getf (pc' := 85) (v := .ref 147) ja_M_leans_82 rfl (by decide) ⟨rfl, by decide⟩ rfl ?_
    refine q_aload_n (pc' := 86) ja_M_leans_85 rfl rfl ?_
    refine q_getf (pc' := 89) (v := .ref 158) ja_M_leans_86 rfl (by decide) ⟨rfl, by decide⟩ rfl ?_
    refine q_iload_n (pc' := 90) ja_M_leans_89 rfl rfl ?_
    refine q_iald (pc' := 91) (v := .int (s 158 a1.toNatClampNeg)) ja_M_leans_90 rfl (by decide) (l := 13) rfl (k6 h1 h2 h3 h4) rfl ?_
    refine q_iald (pc' := 92) (v := .int (s 147 (s 158 a1.toNatClampNeg).toNatClampNeg)) ja_M_leans_91 rfl (by decide) (l := 15) rfl (k7 h1 h2 h3 h4) rfl ?_
    refine q_ic_ne (pc' := 95) ja_M_leans_92 rfl ?_ ?_
    · intro h5
      refine q_iconst (pc' := 100) ja_M_leans_99 rfl (-1) (by decide) ?_
      exact q_iret ja_M_leans_100 rfl rfl (k8 h1 h2 h3 h4 h5)
    · intro h6
      refine q_iconst (pc' := 96) ja_M_leans_95 rfl 1 (by decide) ?_
      refine q_goto ja_M_leans_96 ?_
      exact q_iret ja_M_leans_100 rfl rfl (k9 h1 h2 h3 h4 h6)
  refine q_swD (pc' := 101) ja_M_leans_6 [0, 4, 5, 6] (List.forall_mem_cons.mpr ⟨fun e => h1 (by rw [e]; decide), (List.forall_mem_cons.mpr ⟨fun e => h2 (by rw [e]; decide), (List.forall_mem_cons.mpr ⟨fun e => h3 (by rw [e]; decide), (List.forall_mem_cons.mpr ⟨fun e => h4 (by rw [e]; decide), (List.forall_mem_nil _)⟩)⟩)⟩)⟩) (by decide) rfl ?_
  refine q_aload_n (pc' := 102) ja_M_leans_101 rfl rfl ?_
  refine q_iload_n (pc' := 103) ja_M_leans_102 rfl rfl ?_
  refine q_iload_n (pc' := 104) ja_M_leans_103 rfl rfl ?_
  refine q_virt (pc' := 107) (c := 146) (as := [.int a1, .int a2]) (r := []) ja_M_leans_104 rfl rfl rfl (by decide) ⟨rfl, by decide⟩ ?_
  refine q_in (M := jm_M_gain) rfl (Nat.le_of_ble_eq_true rfl) (ls := [some (.ref 146), some (.int a1), some (.int a2), none, none]) rfl ?_
  refine q_aload_n (pc' := 1) ja_M_gain_0 rfl rfl ?_
  refine q_iload_n (pc' := 2) ja_M_gain_1 rfl rfl ?_
  refine q_virt (pc' := 5) (c := 146) (as := [.int a1]) (r := []) ja_M_gain_2 rfl rfl rfl (by decide) ⟨rfl, by decide⟩ ?_
  refine q_in (M := jm_M_isDoable) rfl (Nat.le_of_ble_eq_true rfl) (ls := [some (.ref 146), some (.int a1)]) rfl ?_
  refine q_aload_n (pc' := 1) ja_M_isDoable_0 rfl rfl ?_
  refine q_getf (pc' := 4) (v := .ref 159) ja_M_isDoable_1 rfl (by decide) ⟨rfl, by decide⟩ rfl ?_
  refine q_iload_n (pc' := 5) ja_M_isDoable_4 rfl rfl ?_
  refine q_iald (pc' := 6) (v := .int (s 159 a1.toNatClampNeg)) ja_M_isDoable_5 rfl (by decide) (l := 13) rfl (k10 h1 h2 h3 h4) rfl ?_
  refine q_iconst (pc' := 7) ja_M_isDoable_6 rfl (-1) (by decide) ?_
  refine q_ic_eq (pc' := 10) ja_M_isDoable_7 rfl ?_ ?_
  · intro h7
    refine q_iconst (pc' := 34) ja_M_isDoable_33 rfl 0 (by decide) ?_
    refine q_iret ja_M_isDoable_34 rfl (by decide) ?_
    show q_W _ _ _ _ 5 [some (.ref 146), some (.int a1), some (.int a2), none, none] [.int 0] s
    refine q_if_ne (pc' := 8) ja_M_gain_5 rfl (fun h => absurd ((by decide : (0 : Int32) = 0)) h) (fun _ => ?_)
    refine q_iconst (pc' := 9) ja_M_gain_8 rfl 0 (by decide) ?_
    refine q_iret ja_M_gain_9 rfl rfl ?_
    show q_W _ _ _ _ 107 [some (.ref 146), some (.int a1), some (.int a2)] [.int 0] s
    exact q_iret ja_M_leans_107 rfl rfl (k11 h1 h2 h3 h4 h7)
  · intro h8
    refine q_aload_n (pc' := 11) ja_M_isDoable_10 rfl rfl ?_
    refine q_getf (pc' := 14) (v := .ref 157) ja_M_isDoable_11 rfl (by decide) ⟨rfl, by decide⟩ rfl ?_
    refine q_iload_n (pc' := 15) ja_M_isDoable_14 rfl rfl ?_
    refine q_iald (pc' := 16) (v := .int (s 157 a1.toNatClampNeg)) ja_M_isDoable_15 rfl (by decide) (l := 13) rfl (k12 h1 h2 h3 h4 h8) rfl ?_
    refine q_iconst (pc' := 17) ja_M_isDoable_16 rfl 2 (by decide) ?_
    refine q_ic_ne (pc' := 20) ja_M_isDoable_17 rfl ?_ ?_
    · intro h9
      refine q_iconst (pc' := 30) ja_M_isDoable_29 rfl 1 (by decide) ?_
      refine q_goto ja_M_isDoable_30 ?_
      refine q_iret ja_M_isDoable_34 rfl (by decide) ?_
      show q_W _ _ _ _ 5 [some (.ref 146), some (.int a1), some (.int a2), none, none] [.int 1] s
      refine q_if_ne (pc' := 8) ja_M_gain_5 rfl (fun _ => ?_) (fun h => absurd h ((by decide : ¬ (1 : Int32) = 0)))
      refine q_aload_n (pc' := 11) ja_M_gain_10 rfl rfl ?_
      refine q_getf (pc' := 14) (v := .ref 157) ja_M_gain_11 rfl (by decide) ⟨rfl, by decide⟩ rfl ?_
      refine q_iload_n (pc' := 15) ja_M_gain_14 rfl rfl ?_
      refine q_iald (pc' := 16) (v := .int (s 157 a1.toNatClampNeg)) ja_M_gain_15 rfl (by decide) (l := 13) rfl (k13 h1 h2 h3 h4 h8 h9) rfl ?_
      refine q_iconst (pc' := 17) ja_M_gain_16 rfl 2 (by decide) ?_
      refine q_ic_ne (pc' := 20) ja_M_gain_17 rfl (fun _ => ?_) (fun h => absurd h (h9))
      refine q_aload_n (pc' := 25) ja_M_gain_24 rfl rfl ?_
      refine q_getf (pc' := 28) (v := .ref 148) ja_M_gain_25 rfl (by decide) ⟨rfl, by decide⟩ rfl ?_
      refine q_bipush (pc' := 30) ja_M_gain_28 rfl 61 (by decide) ?_
      refine q_iload_n (pc' := 31) ja_M_gain_30 rfl rfl ?_
      refine q_imul (pc' := 32) ja_M_gain_31 rfl ?_
      refine q_aload_n (pc' := 33) ja_M_gain_32 rfl rfl ?_
      refine q_getf (pc' := 36) (v := .ref 171) ja_M_gain_33 rfl (by decide) ⟨rfl, by decide⟩ rfl ?_
      refine q_aload_n (pc' := 37) ja_M_gain_36 rfl rfl ?_
      refine q_iload_n (pc' := 38) ja_M_gain_37 rfl rfl ?_
      refine q_virt (pc' := 41) (c := 146) (as := [.int a1]) (r := [.ref 171, .int (61 * a2), .ref 148]) ja_M_gain_38 rfl rfl rfl (by decide) ⟨rfl, by decide⟩ ?_
      refine q_in (M := jm_M_sectionOf) rfl (Nat.le_of_ble_eq_true rfl) (ls := [some (.ref 146), some (.int a1)]) rfl ?_
      refine q_aload_n (pc' := 1) ja_M_sectionOf_0 rfl rfl ?_
      refine q_getf (pc' := 4) (v := .ref 161) ja_M_sectionOf_1 rfl (by decide) ⟨rfl, by decide⟩ rfl ?_
      refine q_iload_n (pc' := 5) ja_M_sectionOf_4 rfl rfl ?_
      refine q_bald (pc' := 6) (v := .int (s 161 a1.toNatClampNeg)) ja_M_sectionOf_5 rfl (by decide) (l := 13) rfl (k14 h1 h2 h3 h4 h8 h9) rfl ?_
      refine q_if_eq (pc' := 9) ja_M_sectionOf_6 rfl ?_ ?_
      · intro h10
        refine q_aload_n (pc' := 17) ja_M_sectionOf_16 rfl rfl ?_
        refine q_getf (pc' := 20) (v := .ref 159) ja_M_sectionOf_17 rfl (by decide) ⟨rfl, by decide⟩ rfl ?_
        refine q_iload_n (pc' := 21) ja_M_sectionOf_20 rfl rfl ?_
        refine q_iald (pc' := 22) (v := .int (s 159 a1.toNatClampNeg)) ja_M_sectionOf_21 rfl (by decide) (l := 13) rfl (k15 h1 h2 h3 h4 h8 h9 h10) rfl ?_
        refine q_iret ja_M_sectionOf_22 rfl rfl ?_
        show q_W _ _ _ _ 41 [some (.ref 146), some (.int a1), some (.int a2), none, none] [.int (s 159 a1.toNatClampNeg), .ref 171, .int (61 * a2), .ref 148] s
        refine q_iald (pc' := 42) (v := .int (s 171 (s 159 a1.toNatClampNeg).toNatClampNeg)) ja_M_gain_41 rfl (by decide) (l := 11) rfl (k16 h1 h2 h3 h4 h8 h9 h10) rfl ?_
        refine q_iadd (pc' := 43) ja_M_gain_42 rfl ?_
        refine q_iald (pc' := 44) (v := .int (s 148 ((61 * a2) + (s 171 (s 159 a1.toNatClampNeg).toNatClampNeg)).toNatClampNeg)) ja_M_gain_43 rfl (by decide) (l := 915) rfl (k17 h1 h2 h3 h4 h8 h9 h10) rfl ?_
        refine q_istore_n (pc' := 45) (ls' := [some (.ref 146), some (.int a1), some (.int a2), some (.int (s 148 ((61 * a2) + (s 171 (s 159 a1.toNatClampNeg).toNatClampNeg)).toNatClampNeg)), none]) ja_M_gain_44 rfl ⟨Nat.le_of_ble_eq_true rfl, rfl⟩ rfl ?_
        refine q_aload_n (pc' := 46) ja_M_gain_45 rfl rfl ?_
        refine q_getf (pc' := 49) (v := .ref 157) ja_M_gain_46 rfl (by decide) ⟨rfl, by decide⟩ rfl ?_
        refine q_iload_n (pc' := 50) ja_M_gain_49 rfl rfl ?_
        refine q_iald (pc' := 51) (v := .int (s 157 a1.toNatClampNeg)) ja_M_gain_50 rfl (by decide) (l := 13) rfl (k18 h1 h2 h3 h4 h8 h9 h10) rfl ?_
        refine q_iconst (pc' := 52) ja_M_gain_51 rfl 1 (by decide) ?_
        refine q_ic_ne (pc' := 55) ja_M_gain_52 rfl ?_ ?_
        · intro h11
          refine q_aload_n (pc' := 60) ja_M_gain_59 rfl rfl ?_
          refine q_getf (pc' := 63) (v := .ref 148) ja_M_gain_60 rfl (by decide) ⟨rfl, by decide⟩ rfl ?_
          refine q_bipush (pc' := 65) ja_M_gain_63 rfl 61 (by decide) ?_
          refine q_iload_n (pc' := 66) ja_M_gain_65 rfl rfl ?_
          refine q_imul (pc' := 67) ja_M_gain_66 rfl ?_
          refine q_aload_n (pc' := 68) ja_M_gain_67 rfl rfl ?_
          refine q_getf (pc' := 71) (v := .ref 160) ja_M_gain_68 rfl (by decide) ⟨rfl, by decide⟩ rfl ?_
          refine q_iload_n (pc' := 72) ja_M_gain_71 rfl rfl ?_
          refine q_iald (pc' := 73) (v := .int (s 160 a1.toNatClampNeg)) ja_M_gain_72 rfl (by decide) (l := 13) rfl (k19 h1 h2 h3 h4 h8 h9 h10 h11) rfl ?_
          refine q_iadd (pc' := 74) ja_M_gain_73 rfl ?_
          refine q_iald (pc' := 75) (v := .int (s 148 ((61 * a2) + (s 160 a1.toNatClampNeg)).toNatClampNeg)) ja_M_gain_74 rfl (by decide) (l := 915) rfl (k20 h1 h2 h3 h4 h8 h9 h10 h11) rfl ?_
          refine q_istore (pc' := 77) (ls' := [some (.ref 146), some (.int a1), some (.int a2), some (.int (s 148 ((61 * a2) + (s 171 (s 159 a1.toNatClampNeg).toNatClampNeg)).toNatClampNeg)), some (.int (s 148 ((61 * a2) + (s 160 a1.toNatClampNeg)).toNatClampNeg))]) ja_M_gain_75 rfl ⟨Nat.le_of_ble_eq_true rfl, rfl⟩ rfl ?_
          refine q_iload (pc' := 79) ja_M_gain_77 rfl rfl ?_
          refine q_iload_n (pc' := 80) ja_M_gain_79 rfl rfl ?_
          refine q_isub (pc' := 81) ja_M_gain_80 rfl ?_
          refine q_iret ja_M_gain_81 rfl rfl ?_
          show q_W _ _ _ _ 107 [some (.ref 146), some (.int a1), some (.int a2)] [.int ((s 148 ((61 * a2) + (s 160 a1.toNatClampNeg)).toNatClampNeg) - (s 148 ((61 * a2) + (s 171 (s 159 a1.toNatClampNeg).toNatClampNeg)).toNatClampNeg))] s
          exact q_iret ja_M_leans_107 rfl rfl (k21 h1 h2 h3 h4 h8 h9 h10 h11)
        · intro h12
          refine q_iconst (pc' := 56) ja_M_gain_55 rfl 0 (by decide) ?_
          refine q_goto ja_M_gain_56 ?_
          refine q_istore (pc' := 77) (ls' := [some (.ref 146), some (.int a1), some (.int a2), some (.int (s 148 ((61 * a2) + (s 171 (s 159 a1.toNatClampNeg).toNatClampNeg)).toNatClampNeg)), some (.int 0)]) ja_M_gain_75 rfl ⟨Nat.le_of_ble_eq_true rfl, rfl⟩ rfl ?_
          refine q_iload (pc' := 79) ja_M_gain_77 rfl rfl ?_
          refine q_iload_n (pc' := 80) ja_M_gain_79 rfl rfl ?_
          refine q_isub (pc' := 81) ja_M_gain_80 rfl ?_
          refine q_iret ja_M_gain_81 rfl rfl ?_
          show q_W _ _ _ _ 107 [some (.ref 146), some (.int a1), some (.int a2)] [.int (0 - (s 148 ((61 * a2) + (s 171 (s 159 a1.toNatClampNeg).toNatClampNeg)).toNatClampNeg))] s
          exact q_iret ja_M_leans_107 rfl rfl (k22 h1 h2 h3 h4 h8 h9 h10 h12)
      · intro h13
        refine q_aload_n (pc' := 10) ja_M_sectionOf_9 rfl rfl ?_
        refine q_getf (pc' := 13) (v := .int (s 146 53)) ja_M_sectionOf_10 rfl (by decide) ⟨rfl, by decide⟩ rfl ?_
        refine q_goto ja_M_sectionOf_13 ?_
        refine q_iret ja_M_sectionOf_22 rfl rfl ?_
        show q_W _ _ _ _ 41 [some (.ref 146), some (.int a1), some (.int a2), none, none] [.int (s 146 53), .ref 171, .int (61 * a2), .ref 148] s
        refine q_iald (pc' := 42) (v := .int (s 171 (s 146 53).toNatClampNeg)) ja_M_gain_41 rfl (by decide) (l := 11) rfl (k23 h1 h2 h3 h4 h8 h9 h13) rfl ?_
        refine q_iadd (pc' := 43) ja_M_gain_42 rfl ?_
        refine q_iald (pc' := 44) (v := .int (s 148 ((61 * a2) + (s 171 (s 146 53).toNatClampNeg)).toNatClampNeg)) ja_M_gain_43 rfl (by decide) (l := 915) rfl (k24 h1 h2 h3 h4 h8 h9 h13) rfl ?_
        refine q_istore_n (pc' := 45) (ls' := [some (.ref 146), some (.int a1), some (.int a2), some (.int (s 148 ((61 * a2) + (s 171 (s 146 53).toNatClampNeg)).toNatClampNeg)), none]) ja_M_gain_44 rfl ⟨Nat.le_of_ble_eq_true rfl, rfl⟩ rfl ?_
        refine q_aload_n (pc' := 46) ja_M_gain_45 rfl rfl ?_
        refine q_getf (pc' := 49) (v := .ref 157) ja_M_gain_46 rfl (by decide) ⟨rfl, by decide⟩ rfl ?_
        refine q_iload_n (pc' := 50) ja_M_gain_49 rfl rfl ?_
        refine q_iald (pc' := 51) (v := .int (s 157 a1.toNatClampNeg)) ja_M_gain_50 rfl (by decide) (l := 13) rfl (k25 h1 h2 h3 h4 h8 h9 h13) rfl ?_
        refine q_iconst (pc' := 52) ja_M_gain_51 rfl 1 (by decide) ?_
        refine q_ic_ne (pc' := 55) ja_M_gain_52 rfl ?_ ?_
        · intro h14
          refine q_aload_n (pc' := 60) ja_M_gain_59 rfl rfl ?_
          refine q_getf (pc' := 63) (v := .ref 148) ja_M_gain_60 rfl (by decide) ⟨rfl, by decide⟩ rfl ?_
          refine q_bipush (pc' := 65) ja_M_gain_63 rfl 61 (by decide) ?_
          refine q_iload_n (pc' := 66) ja_M_gain_65 rfl rfl ?_
          refine q_imul (pc' := 67) ja_M_gain_66 rfl ?_
          refine q_aload_n (pc' := 68) ja_M_gain_67 rfl rfl ?_
          refine q_getf (pc' := 71) (v := .ref 160) ja_M_gain_68 rfl (by decide) ⟨rfl, by decide⟩ rfl ?_
          refine q_iload_n (pc' := 72) ja_M_gain_71 rfl rfl ?_
          refine q_iald (pc' := 73) (v := .int (s 160 a1.toNatClampNeg)) ja_M_gain_72 rfl (by decide) (l := 13) rfl (k26 h1 h2 h3 h4 h8 h9 h13 h14) rfl ?_
          refine q_iadd (pc' := 74) ja_M_gain_73 rfl ?_
          refine q_iald (pc' := 75) (v := .int (s 148 ((61 * a2) + (s 160 a1.toNatClampNeg)).toNatClampNeg)) ja_M_gain_74 rfl (by decide) (l := 915) rfl (k27 h1 h2 h3 h4 h8 h9 h13 h14) rfl ?_
          refine q_istore (pc' := 77) (ls' := [some (.ref 146), some (.int a1), some (.int a2), some (.int (s 148 ((61 * a2) + (s 171 (s 146 53).toNatClampNeg)).toNatClampNeg)), some (.int (s 148 ((61 * a2) + (s 160 a1.toNatClampNeg)).toNatClampNeg))]) ja_M_gain_75 rfl ⟨Nat.le_of_ble_eq_true rfl, rfl⟩ rfl ?_
          refine q_iload (pc' := 79) ja_M_gain_77 rfl rfl ?_
          refine q_iload_n (pc' := 80) ja_M_gain_79 rfl rfl ?_
          refine q_isub (pc' := 81) ja_M_gain_80 rfl ?_
          refine q_iret ja_M_gain_81 rfl rfl ?_
          show q_W _ _ _ _ 107 [some (.ref 146), some (.int a1), some (.int a2)] [.int ((s 148 ((61 * a2) + (s 160 a1.toNatClampNeg)).toNatClampNeg) - (s 148 ((61 * a2) + (s 171 (s 146 53).toNatClampNeg)).toNatClampNeg))] s
          exact q_iret ja_M_leans_107 rfl rfl (k28 h1 h2 h3 h4 h8 h9 h13 h14)
        · intro h15
          refine q_iconst (pc' := 56) ja_M_gain_55 rfl 0 (by decide) ?_
          refine q_goto ja_M_gain_56 ?_
          refine q_istore (pc' := 77) (ls' := [some (.ref 146), some (.int a1), some (.int a2), some (.int (s 148 ((61 * a2) + (s 171 (s 146 53).toNatClampNeg)).toNatClampNeg)), some (.int 0)]) ja_M_gain_75 rfl ⟨Nat.le_of_ble_eq_true rfl, rfl⟩ rfl ?_
          refine q_iload (pc' := 79) ja_M_gain_77 rfl rfl ?_
          refine q_iload_n (pc' := 80) ja_M_gain_79 rfl rfl ?_
          refine q_isub (pc' := 81) ja_M_gain_80 rfl ?_
          refine q_iret ja_M_gain_81 rfl rfl ?_
          show q_W _ _ _ _ 107 [some (.ref 146), some (.int a1), some (.int a2)] [.int (0 - (s 148 ((61 * a2) + (s 171 (s 146 53).toNatClampNeg)).toNatClampNeg))] s
          exact q_iret ja_M_leans_107 rfl rfl (k29 h1 h2 h3 h4 h8 h9 h13 h15)
    · intro h16
      refine q_aload_n (pc' := 21) ja_M_isDoable_20 rfl rfl ?_
      refine q_getf (pc' := 24) (v := .int (s 146 53)) ja_M_isDoable_21 rfl (by decide) ⟨rfl, by decide⟩ rfl ?_
      refine q_bipush (pc' := 26) ja_M_isDoable_24 rfl 10 (by decide) ?_
      refine q_ic_ge (pc' := 29) ja_M_isDoable_26 rfl ?_ ?_
      · intro h17
        refine q_iconst (pc' := 34) ja_M_isDoable_33 rfl 0 (by decide) ?_
        refine q_iret ja_M_isDoable_34 rfl (by decide) ?_
        show q_W _ _ _ _ 5 [some (.ref 146), some (.int a1), some (.int a2), none, none] [.int 0] s
        refine q_if_ne (pc' := 8) ja_M_gain_5 rfl (fun h => absurd ((by decide : (0 : Int32) = 0)) h) (fun _ => ?_)
        refine q_iconst (pc' := 9) ja_M_gain_8 rfl 0 (by decide) ?_
        refine q_iret ja_M_gain_9 rfl rfl ?_
        show q_W _ _ _ _ 107 [some (.ref 146), some (.int a1), some (.int a2)] [.int 0] s
        exact q_iret ja_M_leans_107 rfl rfl (k30 h1 h2 h3 h4 h8 h16 h17)
      · intro h18
        refine q_iconst (pc' := 30) ja_M_isDoable_29 rfl 1 (by decide) ?_
        refine q_goto ja_M_isDoable_30 ?_
        refine q_iret ja_M_isDoable_34 rfl (by decide) ?_
        show q_W _ _ _ _ 5 [some (.ref 146), some (.int a1), some (.int a2), none, none] [.int 1] s
        refine q_if_ne (pc' := 8) ja_M_gain_5 rfl (fun _ => ?_) (fun h => absurd h ((by decide : ¬ (1 : Int32) = 0)))
        refine q_aload_n (pc' := 11) ja_M_gain_10 rfl rfl ?_
        refine q_getf (pc' := 14) (v := .ref 157) ja_M_gain_11 rfl (by decide) ⟨rfl, by decide⟩ rfl ?_
        refine q_iload_n (pc' := 15) ja_M_gain_14 rfl rfl ?_
        refine q_iald (pc' := 16) (v := .int (s 157 a1.toNatClampNeg)) ja_M_gain_15 rfl (by decide) (l := 13) rfl (k31 h1 h2 h3 h4 h8 h16 h18) rfl ?_
        refine q_iconst (pc' := 17) ja_M_gain_16 rfl 2 (by decide) ?_
        refine q_ic_ne (pc' := 20) ja_M_gain_17 rfl (fun h => absurd (h16) h) (fun _ => ?_)
        refine q_iconst (pc' := 21) ja_M_gain_20 rfl 0 (by decide) ?_
        refine q_goto ja_M_gain_21 ?_
        refine q_istore_n (pc' := 45) (ls' := [some (.ref 146), some (.int a1), some (.int a2), some (.int 0), none]) ja_M_gain_44 rfl ⟨Nat.le_of_ble_eq_true rfl, rfl⟩ rfl ?_
        refine q_aload_n (pc' := 46) ja_M_gain_45 rfl rfl ?_
        refine q_getf (pc' := 49) (v := .ref 157) ja_M_gain_46 rfl (by decide) ⟨rfl, by decide⟩ rfl ?_
        refine q_iload_n (pc' := 50) ja_M_gain_49 rfl rfl ?_
        refine q_iald (pc' := 51) (v := .int (s 157 a1.toNatClampNeg)) ja_M_gain_50 rfl (by decide) (l := 13) rfl (k32 h1 h2 h3 h4 h8 h16 h18) rfl ?_
        refine q_iconst (pc' := 52) ja_M_gain_51 rfl 1 (by decide) ?_
        refine q_ic_ne (pc' := 55) ja_M_gain_52 rfl ?_ ?_
        · intro h19
          refine q_aload_n (pc' := 60) ja_M_gain_59 rfl rfl ?_
          refine q_getf (pc' := 63) (v := .ref 148) ja_M_gain_60 rfl (by decide) ⟨rfl, by decide⟩ rfl ?_
          refine q_bipush (pc' := 65) ja_M_gain_63 rfl 61 (by decide) ?_
          refine q_iload_n (pc' := 66) ja_M_gain_65 rfl rfl ?_
          refine q_imul (pc' := 67) ja_M_gain_66 rfl ?_
          refine q_aload_n (pc' := 68) ja_M_gain_67 rfl rfl ?_
          refine q_getf (pc' := 71) (v := .ref 160) ja_M_gain_68 rfl (by decide) ⟨rfl, by decide⟩ rfl ?_
          refine q_iload_n (pc' := 72) ja_M_gain_71 rfl rfl ?_
          refine q_iald (pc' := 73) (v := .int (s 160 a1.toNatClampNeg)) ja_M_gain_72 rfl (by decide) (l := 13) rfl (k33 h1 h2 h3 h4 h8 h16 h18 h19) rfl ?_
          refine q_iadd (pc' := 74) ja_M_gain_73 rfl ?_
          refine q_iald (pc' := 75) (v := .int (s 148 ((61 * a2) + (s 160 a1.toNatClampNeg)).toNatClampNeg)) ja_M_gain_74 rfl (by decide) (l := 915) rfl (k34 h1 h2 h3 h4 h8 h16 h18 h19) rfl ?_
          refine q_istore (pc' := 77) (ls' := [some (.ref 146), some (.int a1), some (.int a2), some (.int 0), some (.int (s 148 ((61 * a2) + (s 160 a1.toNatClampNeg)).toNatClampNeg))]) ja_M_gain_75 rfl ⟨Nat.le_of_ble_eq_true rfl, rfl⟩ rfl ?_
          refine q_iload (pc' := 79) ja_M_gain_77 rfl rfl ?_
          refine q_iload_n (pc' := 80) ja_M_gain_79 rfl rfl ?_
          refine q_isub (pc' := 81) ja_M_gain_80 rfl ?_
          refine q_iret ja_M_gain_81 rfl rfl ?_
          show q_W _ _ _ _ 107 [some (.ref 146), some (.int a1), some (.int a2)] [.int ((s 148 ((61 * a2) + (s 160 a1.toNatClampNeg)).toNatClampNeg) - 0)] s
          exact q_iret ja_M_leans_107 rfl rfl (k35 h1 h2 h3 h4 h8 h16 h18 h19)
        · intro h20
          refine q_iconst (pc' := 56) ja_M_gain_55 rfl 0 (by decide) ?_
          refine q_goto ja_M_gain_56 ?_
          refine q_istore (pc' := 77) (ls' := [some (.ref 146), some (.int a1), some (.int a2), some (.int 0), some (.int 0)]) ja_M_gain_75 rfl ⟨Nat.le_of_ble_eq_true rfl, rfl⟩ rfl ?_
          refine q_iload (pc' := 79) ja_M_gain_77 rfl rfl ?_
          refine q_iload_n (pc' := 80) ja_M_gain_79 rfl rfl ?_
          refine q_isub (pc' := 81) ja_M_gain_80 rfl ?_
          rw [show ((0 - 0) : Int32) = 0 from by decide]
          refine q_iret ja_M_gain_81 rfl rfl ?_
          show q_W _ _ _ _ 107 [some (.ref 146), some (.int a1), some (.int a2)] [.int 0] s
          exact q_iret ja_M_leans_107 rfl rfl (k36 h1 h2 h3 h4 h8 h16 h18 h20)
set_option maxRecDepth 20000 in
theorem t_M_leans_53 {G : jv_X} {d : Nat} {B : Option Value → jg_H → Prop} {s : jg_H} (x1 : Int32) (x2 : Int32) (y0 : Int32)
    (k1 : B (some (.int y0)) s) :
    q_W G (d + 2) jm_M_leans B 53 [some (.ref 146), some (.int x1), some (.int x2)] [.int y0] s := by
  exact q_iret ja_M_leans_53 rfl rfl k1
set_option maxRecDepth 20000 in
theorem t_M_leans_59 {G : jv_X} {d : Nat} {B : Option Value → jg_H → Prop} {s : jg_H} (x1 : Int32) (x2 : Int32) (y0 : Int32)
    (k1 : B (some (.int (-y0))) s) :
    q_W G (d + 2) jm_M_leans B 59 [some (.ref 146), some (.int x1), some (.int x2)] [.int y0] s := by
  refine q_ineg (pc' := 60) ja_M_leans_59 rfl ?_
  exact q_iret ja_M_leans_60 rfl rfl k1
set_option maxRecDepth 20000 in
theorem t_M_leans_66 {G : jv_X} {d : Nat} {B : Option Value → jg_H → Prop} {s : jg_H} (x1 : Int32) (x2 : Int32) (y0 : Int32)
    (k1 : ¬ y0 = 0 → B (some (.int (-1))) s)
    (k2 : y0 = 0 → B (some (.int 1)) s) :
    q_W G (d + 2) jm_M_leans B 66 [some (.ref 146), some (.int x1), some (.int x2)] [.int y0] s := by
  refine q_if_ne (pc' := 69) ja_M_leans_66 rfl ?_ ?_
  · intro h1
    refine q_iconst (pc' := 74) ja_M_leans_73 rfl (-1) (by decide) ?_
    exact q_iret ja_M_leans_74 rfl rfl (k1 h1)
  · intro h2
    refine q_iconst (pc' := 70) ja_M_leans_69 rfl 1 (by decide) ?_
    refine q_goto ja_M_leans_70 ?_
    exact q_iret ja_M_leans_74 rfl rfl (k2 h2)
set_option maxRecDepth 20000 in
theorem t_M_like {G : jv_X} {d : Nat} {B : Option Value → jg_H → Prop} {s : jg_H} (a1 : Int32) (a2 : Int32) (a3 : Int32)
    (k1 : a1 < 0 → B (some (.int (-100))) s)
    (k2 : ¬ a1 < 0 → ¬ a1 ≤ ((s 146 0) - 1) → B (some (.int (-100))) s)
    (k3 : ¬ a1 < 0 → a1 ≤ ((s 146 0) - 1) → a2 < 1 → B (some (.int (-100))) s)
    (k4 : ¬ a1 < 0 → a1 ≤ ((s 146 0) - 1) → ¬ a2 < 1 → ¬ a2 ≤ 60 → B (some (.int (-100))) s)
    (k5 : ¬ a1 < 0 → a1 ≤ ((s 146 0) - 1) → ¬ a2 < 1 → a2 ≤ 60 → a3 < (-9) → B (some (.int (-100))) s)
    (k6 : ¬ a1 < 0 → a1 ≤ ((s 146 0) - 1) → ¬ a2 < 1 → a2 ≤ 60 → ¬ a3 < (-9) → ¬ a3 ≤ 9 → B (some (.int (-100))) s)
    (k7 : ¬ a1 < 0 → a1 ≤ ((s 146 0) - 1) → ¬ a2 < 1 → a2 ≤ 60 → ¬ a3 < (-9) → a3 ≤ 9 → jv_in ((61 * a1) + a2) 915 = true)
    (k8 : ¬ a1 < 0 → a1 ≤ ((s 146 0) - 1) → ¬ a2 < 1 → a2 ≤ 60 → ¬ a3 < (-9) → a3 ≤ 9 → jv_in ((61 * a1) + a2) 915 = true)
    (k9 : ¬ a1 < 0 → a1 ≤ ((s 146 0) - 1) → ¬ a2 < 1 → a2 ≤ 60 → ¬ a3 < (-9) → a3 ≤ 9 → ∀ s1 : jg_H, s1 = jg_up s 148 ((61 * a1) + a2).toNatClampNeg a3 → B (some (.int (s 148 ((61 * a1) + a2).toNatClampNeg))) s1) :
    q_P G (d + 3) 153 [.ref 146, .int a1, .int a2, .int a3] s B := by
  refine q_in (M := jm_M_like) rfl (Nat.le_of_ble_eq_true rfl) (ls := [some (.ref 146), some (.int a1), some (.int a2), some (.int a3), none]) rfl ?_
  refine q_aload_n (pc' := 1) ja_M_like_0 rfl rfl ?_
  refine q_iload_n (pc' := 2) ja_M_like_1 rfl rfl ?_
  refine q_virt (pc' := 5) (c := 146) (as := [.int a1]) (r := []) ja_M_like_2 rfl rfl rfl (by decide) ⟨rfl, by decide⟩ ?_
  refine q_in (M := jm_M_isMember) rfl (Nat.le_of_ble_eq_true rfl) (ls := [some (.ref 146), some (.int a1)]) rfl ?_
  refine q_iload_n (pc' := 1) ja_M_isMember_0 rfl rfl ?_
  refine q_iconst (pc' := 2) ja_M_isMember_1 rfl 0 (by decide) ?_
  refine q_aload_n (pc' := 3) ja_M_isMember_2 rfl rfl ?_
  refine q_getf (pc' := 6) (v := .int (s 146 0)) ja_M_isMember_3 rfl (by decide) ⟨rfl, by decide⟩ rfl ?_
  refine q_iconst (pc' := 7) ja_M_isMember_6 rfl 1 (by decide) ?_
  refine q_isub (pc' := 8) ja_M_isMember_7 rfl ?_
  refine q_stat (pc' := 11) (as := [.int a1, .int 0, .int ((s 146 0) - 1)]) (r := []) ja_M_isMember_8 rfl (by decide) rfl rfl ?_
  refine q_in (M := jm_M_in) rfl (Nat.le_of_ble_eq_true rfl) (ls := [some (.int a1), some (.int 0), some (.int ((s 146 0) - 1))]) rfl ?_
  refine q_iload_n (pc' := 1) ja_M_in_0 rfl rfl ?_
  refine q_iload_n (pc' := 2) ja_M_in_1 rfl rfl ?_
  refine q_ic_lt (pc' := 5) ja_M_in_2 rfl ?_ ?_
  · intro h1
    refine q_iconst (pc' := 15) ja_M_in_14 rfl 0 (by decide) ?_
    refine q_iret ja_M_in_15 rfl (by decide) ?_
    show q_W _ _ _ _ 11 [some (.ref 146), some (.int a1)] [.int 0] s
    refine q_iret ja_M_isMember_11 rfl (by decide) ?_
    show q_W _ _ _ _ 5 [some (.ref 146), some (.int a1), some (.int a2), some (.int a3), none] [.int 0] s
    refine q_if_eq (pc' := 8) ja_M_like_5 rfl (fun _ => ?_) (fun h => absurd ((by decide : (0 : Int32) = 0)) h)
    refine q_bipush (pc' := 28) ja_M_like_26 rfl (-100) (by decide) ?_
    exact q_iret ja_M_like_28 rfl rfl (k1 h1)
  · intro h2
    refine q_iload_n (pc' := 6) ja_M_in_5 rfl rfl ?_
    refine q_iload_n (pc' := 7) ja_M_in_6 rfl rfl ?_
    refine q_ic_gt (pc' := 10) ja_M_in_7 rfl ?_ ?_
    · intro h3
      refine q_iconst (pc' := 15) ja_M_in_14 rfl 0 (by decide) ?_
      refine q_iret ja_M_in_15 rfl (by decide) ?_
      show q_W _ _ _ _ 11 [some (.ref 146), some (.int a1)] [.int 0] s
      refine q_iret ja_M_isMember_11 rfl (by decide) ?_
      show q_W _ _ _ _ 5 [some (.ref 146), some (.int a1), some (.int a2), some (.int a3), none] [.int 0] s
      refine q_if_eq (pc' := 8) ja_M_like_5 rfl (fun _ => ?_) (fun h => absurd ((by decide : (0 : Int32) = 0)) h)
      refine q_bipush (pc' := 28) ja_M_like_26 rfl (-100) (by decide) ?_
      exact q_iret ja_M_like_28 rfl rfl (k2 h2 h3)
    · intro h4
      refine q_iconst (pc' := 11) ja_M_in_10 rfl 1 (by decide) ?_
      refine q_goto ja_M_in_11 ?_
      refine q_iret ja_M_in_15 rfl (by decide) ?_
      show q_W _ _ _ _ 11 [some (.ref 146), some (.int a1)] [.int 1] s
      refine q_iret ja_M_isMember_11 rfl (by decide) ?_
      show q_W _ _ _ _ 5 [some (.ref 146), some (.int a1), some (.int a2), some (.int a3), none] [.int 1] s
      refine q_if_eq (pc' := 8) ja_M_like_5 rfl (fun h => absurd h ((by decide : ¬ (1 : Int32) = 0))) (fun _ => ?_)
      refine q_iload_n (pc' := 9) ja_M_like_8 rfl rfl ?_
      refine q_stat (pc' := 12) (as := [.int a2]) (r := []) ja_M_like_9 rfl (by decide) rfl rfl ?_
      refine q_in (M := jm_M_isWord) rfl (Nat.le_of_ble_eq_true rfl) (ls := [some (.int a2)]) rfl ?_
      refine q_iload_n (pc' := 1) ja_M_isWord_0 rfl rfl ?_
      refine q_iconst (pc' := 2) ja_M_isWord_1 rfl 1 (by decide) ?_
      refine q_bipush (pc' := 4) ja_M_isWord_2 rfl 60 (by decide) ?_
      refine q_stat (pc' := 7) (as := [.int a2, .int 1, .int 60]) (r := []) ja_M_isWord_4 rfl (by decide) rfl rfl ?_
      refine q_in (M := jm_M_in) rfl (Nat.le_of_ble_eq_true rfl) (ls := [some (.int a2), some (.int 1), some (.int 60)]) rfl ?_
      refine q_iload_n (pc' := 1) ja_M_in_0 rfl rfl ?_
      refine q_iload_n (pc' := 2) ja_M_in_1 rfl rfl ?_
      refine q_ic_lt (pc' := 5) ja_M_in_2 rfl ?_ ?_
      · intro h5
        refine q_iconst (pc' := 15) ja_M_in_14 rfl 0 (by decide) ?_
        refine q_iret ja_M_in_15 rfl (by decide) ?_
        show q_W _ _ _ _ 7 [some (.int a2)] [.int 0] s
        refine q_iret ja_M_isWord_7 rfl (by decide) ?_
        show q_W _ _ _ _ 12 [some (.ref 146), some (.int a1), some (.int a2), some (.int a3), none] [.int 0] s
        refine q_if_eq (pc' := 15) ja_M_like_12 rfl (fun _ => ?_) (fun h => absurd ((by decide : (0 : Int32) = 0)) h)
        refine q_bipush (pc' := 28) ja_M_like_26 rfl (-100) (by decide) ?_
        exact q_iret ja_M_like_28 rfl rfl (k3 h2 h4 h5)
      · intro h6
        refine q_iload_n (pc' := 6) ja_M_in_5 rfl rfl ?_
        refine q_iload_n (pc' := 7) ja_M_in_6 rfl rfl ?_
        refine q_ic_gt (pc' := 10) ja_M_in_7 rfl ?_ ?_
        · intro h7
          refine q_iconst (pc' := 15) ja_M_in_14 rfl 0 (by decide) ?_
          refine q_iret ja_M_in_15 rfl (by decide) ?_
          show q_W _ _ _ _ 7 [some (.int a2)] [.int 0] s
          refine q_iret ja_M_isWord_7 rfl (by decide) ?_
          show q_W _ _ _ _ 12 [some (.ref 146), some (.int a1), some (.int a2), some (.int a3), none] [.int 0] s
          refine q_if_eq (pc' := 15) ja_M_like_12 rfl (fun _ => ?_) (fun h => absurd ((by decide : (0 : Int32) = 0)) h)
          refine q_bipush (pc' := 28) ja_M_like_26 rfl (-100) (by decide) ?_
          exact q_iret ja_M_like_28 rfl rfl (k4 h2 h4 h6 h7)
        · intro h8
          refine q_iconst (pc' := 11) ja_M_in_10 rfl 1 (by decide) ?_
          refine q_goto ja_M_in_11 ?_
          refine q_iret ja_M_in_15 rfl (by decide) ?_
          show q_W _ _ _ _ 7 [some (.int a2)] [.int 1] s
          refine q_iret ja_M_isWord_7 rfl (by decide) ?_
          show q_W _ _ _ _ 12 [some (.ref 146), some (.int a1), some (.int a2), some (.int a3), none] [.int 1] s
          refine q_if_eq (pc' := 15) ja_M_like_12 rfl (fun h => absurd h ((by decide : ¬ (1 : Int32) = 0))) (fun _ => ?_)
          refine q_iload_n (pc' := 16) ja_M_like_15 rfl rfl ?_
          refine q_bipush (pc' := 18) ja_M_like_16 rfl (-9) (by decide) ?_
          refine q_bipush (pc' := 20) ja_M_like_18 rfl 9 (by decide) ?_
          refine q_stat (pc' := 23) (as := [.int a3, .int (-9), .int 9]) (r := []) ja_M_like_20 rfl (by decide) rfl rfl ?_
          refine q_in (M := jm_M_in) rfl (Nat.le_of_ble_eq_true rfl) (ls := [some (.int a3), some (.int (-9)), some (.int 9)]) rfl ?_
          refine q_iload_n (pc' := 1) ja_M_in_0 rfl rfl ?_
          refine q_iload_n (pc' := 2) ja_M_in_1 rfl rfl ?_
          refine q_ic_lt (pc' := 5) ja_M_in_2 rfl ?_ ?_
          · intro h9
            refine q_iconst (pc' := 15) ja_M_in_14 rfl 0 (by decide) ?_
            refine q_iret ja_M_in_15 rfl (by decide) ?_
            show q_W _ _ _ _ 23 [some (.ref 146), some (.int a1), some (.int a2), some (.int a3), none] [.int 0] s
            refine q_if_ne (pc' := 26) ja_M_like_23 rfl (fun h => absurd ((by decide : (0 : Int32) = 0)) h) (fun _ => ?_)
            refine q_bipush (pc' := 28) ja_M_like_26 rfl (-100) (by decide) ?_
            exact q_iret ja_M_like_28 rfl rfl (k5 h2 h4 h6 h8 h9)
          · intro h10
            refine q_iload_n (pc' := 6) ja_M_in_5 rfl rfl ?_
            refine q_iload_n (pc' := 7) ja_M_in_6 rfl rfl ?_
            refine q_ic_gt (pc' := 10) ja_M_in_7 rfl ?_ ?_
            · intro h11
              refine q_iconst (pc' := 15) ja_M_in_14 rfl 0 (by decide) ?_
              refine q_iret ja_M_in_15 rfl (by decide) ?_
              show q_W _ _ _ _ 23 [some (.ref 146), some (.int a1), some (.int a2), some (.int a3), none] [.int 0] s
              refine q_if_ne (pc' := 26) ja_M_like_23 rfl (fun h => absurd ((by decide : (0 : Int32) = 0)) h) (fun _ => ?_)
              refine q_bipush (pc' := 28) ja_M_like_26 rfl (-100) (by decide) ?_
              exact q_iret ja_M_like_28 rfl rfl (k6 h2 h4 h6 h8 h10 h11)
            · intro h12
              refine q_iconst (pc' := 11) ja_M_in_10 rfl 1 (by decide) ?_
              refine q_goto ja_M_in_11 ?_
              refine q_iret ja_M_in_15 rfl (by decide) ?_
              show q_W _ _ _ _ 23 [some (.ref 146), some (.int a1), some (.int a2), some (.int a3), none] [.int 1] s
              refine q_if_ne (pc' := 26) ja_M_like_23 rfl (fun _ => ?_) (fun h => absurd h ((by decide : ¬ (1 : Int32) = 0)))
              refine q_aload_n (pc' := 30) ja_M_like_29 rfl rfl ?_
              refine q_getf (pc' := 33) (v := .ref 148) ja_M_like_30 rfl (by decide) ⟨rfl, by decide⟩ rfl ?_
              refine q_bipush (pc' := 35) ja_M_like_33 rfl 61 (by decide) ?_
              refine q_iload_n (pc' := 36) ja_M_like_35 rfl rfl ?_
              refine q_imul (pc' := 37) ja_M_like_36 rfl ?_
              refine q_iload_n (pc' := 38) ja_M_like_37 rfl rfl ?_
              refine q_iadd (pc' := 39) ja_M_like_38 rfl ?_
              refine q_iald (pc' := 40) (v := .int (s 148 ((61 * a1) + a2).toNatClampNeg)) ja_M_like_39 rfl (by decide) (l := 915) rfl (k7 h2 h4 h6 h8 h10 h12) rfl ?_
              refine q_istore (pc' := 42) (ls' := [some (.ref 146), some (.int a1), some (.int a2), some (.int a3), some (.int (s 148 ((61 * a1) + a2).toNatClampNeg))]) ja_M_like_40 rfl ⟨Nat.le_of_ble_eq_true rfl, rfl⟩ rfl ?_
              refine q_aload_n (pc' := 43) ja_M_like_42 rfl rfl ?_
              refine q_getf (pc' := 46) (v := .ref 148) ja_M_like_43 rfl (by decide) ⟨rfl, by decide⟩ rfl ?_
              refine q_bipush (pc' := 48) ja_M_like_46 rfl 61 (by decide) ?_
              refine q_iload_n (pc' := 49) ja_M_like_48 rfl rfl ?_
              refine q_imul (pc' := 50) ja_M_like_49 rfl ?_
              refine q_iload_n (pc' := 51) ja_M_like_50 rfl rfl ?_
              refine q_iadd (pc' := 52) ja_M_like_51 rfl ?_
              refine q_iload_n (pc' := 53) ja_M_like_52 rfl rfl ?_
              refine q_iast (pc' := 54) ja_M_like_53 rfl (by decide) (l := 915) rfl (k8 h2 h4 h6 h8 h10 h12) ?_
              intro s1 e1
              refine q_iload (pc' := 56) ja_M_like_54 rfl rfl ?_
              exact q_iret ja_M_like_56 rfl rfl (k9 h2 h4 h6 h8 h10 h12 s1 e1)
set_option maxRecDepth 20000 in
theorem t_M_lists {G : jv_X} {d : Nat} {B : Option Value → jg_H → Prop} {s : jg_H} (a1 : Int32)
    (k1 : jv_in a1 8 = true)
    (k2 : ∀ s1 : jg_H, s1 = jg_up s 152 a1.toNatClampNeg 1 → jv_in (s1 146 11) 8 = true)
    (k3 : ∀ s1 : jg_H, s1 = jg_up s 152 a1.toNatClampNeg 1 → ∀ s2 : jg_H, s2 = jg_up s1 156 (s1 146 11).toNatClampNeg a1 → ∀ s3 : jg_H, s3 = jg_up s2 146 11 ((s2 146 11) + 1) → B (some (.int ((s3 146 11) - 1))) s3) :
    q_P G (d + 1) 172 [.ref 146, .int a1] s B := by
  refine q_in (M := jm_M_lists) rfl (Nat.le_of_ble_eq_true rfl) (ls := [some (.ref 146), some (.int a1)]) rfl ?_
  refine q_aload_n (pc' := 1) ja_M_lists_0 rfl rfl ?_
  refine q_getf (pc' := 4) (v := .ref 152) ja_M_lists_1 rfl (by decide) ⟨rfl, by decide⟩ rfl ?_
  refine q_iload_n (pc' := 5) ja_M_lists_4 rfl rfl ?_
  refine q_iconst (pc' := 6) ja_M_lists_5 rfl 1 (by decide) ?_
  refine q_iast (pc' := 7) ja_M_lists_6 rfl (by decide) (l := 8) rfl k1 ?_
  intro s1 e1
  refine q_aload_n (pc' := 8) ja_M_lists_7 rfl rfl ?_
  refine q_getf (pc' := 11) (v := .ref 156) ja_M_lists_8 rfl (by decide) ⟨rfl, by decide⟩ rfl ?_
  refine q_aload_n (pc' := 12) ja_M_lists_11 rfl rfl ?_
  refine q_getf (pc' := 15) (v := .int (s1 146 11)) ja_M_lists_12 rfl (by decide) ⟨rfl, by decide⟩ rfl ?_
  refine q_iload_n (pc' := 16) ja_M_lists_15 rfl rfl ?_
  refine q_iast (pc' := 17) ja_M_lists_16 rfl (by decide) (l := 8) rfl (k2 s1 e1) ?_
  intro s2 e2
  refine q_aload_n (pc' := 18) ja_M_lists_17 rfl rfl ?_
  refine q_dup (pc' := 19) ja_M_lists_18 rfl rfl ?_
  refine q_getf (pc' := 22) (v := .int (s2 146 11)) ja_M_lists_19 rfl (by decide) ⟨rfl, by decide⟩ rfl ?_
  refine q_iconst (pc' := 23) ja_M_lists_22 rfl 1 (by decide) ?_
  refine q_iadd (pc' := 24) ja_M_lists_23 rfl ?_
  refine q_putf (pc' := 27) ja_M_lists_24 rfl (by decide) rfl rfl rfl ?_
  intro s3 e3
  refine q_aload_n (pc' := 28) ja_M_lists_27 rfl rfl ?_
  refine q_getf (pc' := 31) (v := .int (s3 146 11)) ja_M_lists_28 rfl (by decide) ⟨rfl, by decide⟩ rfl ?_
  refine q_iconst (pc' := 32) ja_M_lists_31 rfl 1 (by decide) ?_
  refine q_isub (pc' := 33) ja_M_lists_32 rfl ?_
  exact q_iret ja_M_lists_33 rfl rfl (k3 s1 e1 s2 e2 s3 e3)
set_option maxRecDepth 20000 in
theorem t_M_made {G : jv_X} {d : Nat} {B : Option Value → jg_H → Prop} {s : jg_H} (a1 : Int32) (a2 : Int32)
    (k1 : a1 < 0 → B (some (.int (-2))) s)
    (k2 : ¬ a1 < 0 → ¬ a1 ≤ 3 → B (some (.int (-2))) s)
    (k3 : ¬ a1 < 0 → a1 ≤ 3 → jv_in a1 4 = true)
    (k4 : ¬ a1 < 0 → a1 ≤ 3 → ¬ (s 166 a1.toNatClampNeg) = (-1) → jv_in a1 4 = true)
    (k5 : ¬ a1 < 0 → a1 ≤ 3 → ¬ (s 166 a1.toNatClampNeg) = (-1) → a2 < 0 → B (some (.int (-12))) s)
    (k6 : ¬ a1 < 0 → a1 ≤ 3 → ¬ (s 166 a1.toNatClampNeg) = (-1) → ¬ a2 < 0 → ¬ a2 ≤ ((s 166 a1.toNatClampNeg) - 4) → B (some (.int (-12))) s)
    (k7 : ¬ a1 < 0 → a1 ≤ 3 → ¬ (s 166 a1.toNatClampNeg) = (-1) → ¬ a2 < 0 → a2 ≤ ((s 166 a1.toNatClampNeg) - 4) → jv_in ((40 * a1) + a2) 160 = true)
    (k8 : ¬ a1 < 0 → a1 ≤ 3 → ¬ (s 166 a1.toNatClampNeg) = (-1) → ¬ a2 < 0 → a2 ≤ ((s 166 a1.toNatClampNeg) - 4) → jv_in (((40 * a1) + a2) + 1) 160 = true)
    (k9 : ¬ a1 < 0 → a1 ≤ 3 → ¬ (s 166 a1.toNatClampNeg) = (-1) → ¬ a2 < 0 → a2 ≤ ((s 166 a1.toNatClampNeg) - 4) → jv_in (((40 * a1) + a2) + 2) 160 = true)
    (k10 : ¬ a1 < 0 → a1 ≤ 3 → ¬ (s 166 a1.toNatClampNeg) = (-1) → ¬ a2 < 0 → a2 ≤ ((s 166 a1.toNatClampNeg) - 4) → jv_in (((40 * a1) + a2) + 3) 160 = true)
    (k11 : ¬ a1 < 0 → a1 ≤ 3 → ¬ (s 166 a1.toNatClampNeg) = (-1) → ¬ a2 < 0 → a2 ≤ ((s 166 a1.toNatClampNeg) - 4) → q_P G (d + 2) 187 [.ref 146, .int (s 167 ((40 * a1) + a2).toNatClampNeg), .int (s 167 (((40 * a1) + a2) + 1).toNatClampNeg), .int (s 167 (((40 * a1) + a2) + 2).toNatClampNeg), .int (s 167 (((40 * a1) + a2) + 3).toNatClampNeg)] s (fun v t => q_W G (d + 2) jm_M_made B 83 [some (.ref 146), some (.int a1), some (.int a2), some (.int ((40 * a1) + a2))] (v.toList ++ []) t))
    (k12 : ¬ a1 < 0 → a1 ≤ 3 → (s 166 a1.toNatClampNeg) = (-1) → B (some (.int (-11))) s) :
    q_P G (d + 3) 218 [.ref 146, .int a1, .int a2] s B := by
  refine q_in (M := jm_M_made) rfl (Nat.le_of_ble_eq_true rfl) (ls := [some (.ref 146), some (.int a1), some (.int a2), none]) rfl ?_
  refine q_iload_n (pc' := 1) ja_M_made_0 rfl rfl ?_
  refine q_stat (pc' := 4) (as := [.int a1]) (r := []) ja_M_made_1 rfl (by decide) rfl rfl ?_
  refine q_in (M := jm_M_isTray) rfl (Nat.le_of_ble_eq_true rfl) (ls := [some (.int a1)]) rfl ?_
  refine q_iload_n (pc' := 1) ja_M_isTray_0 rfl rfl ?_
  refine q_iconst (pc' := 2) ja_M_isTray_1 rfl 0 (by decide) ?_
  refine q_iconst (pc' := 3) ja_M_isTray_2 rfl 3 (by decide) ?_
  refine q_stat (pc' := 6) (as := [.int a1, .int 0, .int 3]) (r := []) ja_M_isTray_3 rfl (by decide) rfl rfl ?_
  refine q_in (M := jm_M_in) rfl (Nat.le_of_ble_eq_true rfl) (ls := [some (.int a1), some (.int 0), some (.int 3)]) rfl ?_
  refine q_iload_n (pc' := 1) ja_M_in_0 rfl rfl ?_
  refine q_iload_n (pc' := 2) ja_M_in_1 rfl rfl ?_
  refine q_ic_lt (pc' := 5) ja_M_in_2 rfl ?_ ?_
  · intro h1
    refine q_iconst (pc' := 15) ja_M_in_14 rfl 0 (by decide) ?_
    refine q_iret ja_M_in_15 rfl (by decide) ?_
    show q_W _ _ _ _ 6 [some (.int a1)] [.int 0] s
    refine q_iret ja_M_isTray_6 rfl (by decide) ?_
    show q_W _ _ _ _ 4 [some (.ref 146), some (.int a1), some (.int a2), none] [.int 0] s
    refine q_if_ne (pc' := 7) ja_M_made_4 rfl (fun h => absurd ((by decide : (0 : Int32) = 0)) h) (fun _ => ?_)
    refine q_bipush (pc' := 9) ja_M_made_7 rfl (-2) (by decide) ?_
    exact q_iret ja_M_made_9 rfl rfl (k1 h1)
  · intro h2
    refine q_iload_n (pc' := 6) ja_M_in_5 rfl rfl ?_
    refine q_iload_n (pc' := 7) ja_M_in_6 rfl rfl ?_
    refine q_ic_gt (pc' := 10) ja_M_in_7 rfl ?_ ?_
    · intro h3
      refine q_iconst (pc' := 15) ja_M_in_14 rfl 0 (by decide) ?_
      refine q_iret ja_M_in_15 rfl (by decide) ?_
      show q_W _ _ _ _ 6 [some (.int a1)] [.int 0] s
      refine q_iret ja_M_isTray_6 rfl (by decide) ?_
      show q_W _ _ _ _ 4 [some (.ref 146), some (.int a1), some (.int a2), none] [.int 0] s
      refine q_if_ne (pc' := 7) ja_M_made_4 rfl (fun h => absurd ((by decide : (0 : Int32) = 0)) h) (fun _ => ?_)
      refine q_bipush (pc' := 9) ja_M_made_7 rfl (-2) (by decide) ?_
      exact q_iret ja_M_made_9 rfl rfl (k2 h2 h3)
    · intro h4
      refine q_iconst (pc' := 11) ja_M_in_10 rfl 1 (by decide) ?_
      refine q_goto ja_M_in_11 ?_
      refine q_iret ja_M_in_15 rfl (by decide) ?_
      show q_W _ _ _ _ 6 [some (.int a1)] [.int 1] s
      refine q_iret ja_M_isTray_6 rfl (by decide) ?_
      show q_W _ _ _ _ 4 [some (.ref 146), some (.int a1), some (.int a2), none] [.int 1] s
      refine q_if_ne (pc' := 7) ja_M_made_4 rfl (fun _ => ?_) (fun h => absurd h ((by decide : ¬ (1 : Int32) = 0)))
      refine q_aload_n (pc' := 11) ja_M_made_10 rfl rfl ?_
      refine q_getf (pc' := 14) (v := .ref 166) ja_M_made_11 rfl (by decide) ⟨rfl, by decide⟩ rfl ?_
      refine q_iload_n (pc' := 15) ja_M_made_14 rfl rfl ?_
      refine q_iald (pc' := 16) (v := .int (s 166 a1.toNatClampNeg)) ja_M_made_15 rfl (by decide) (l := 4) rfl (k3 h2 h4) rfl ?_
      refine q_iconst (pc' := 17) ja_M_made_16 rfl (-1) (by decide) ?_
      refine q_ic_ne (pc' := 20) ja_M_made_17 rfl ?_ ?_
      · intro h5
        refine q_iload_n (pc' := 24) ja_M_made_23 rfl rfl ?_
        refine q_iconst (pc' := 25) ja_M_made_24 rfl 0 (by decide) ?_
        refine q_aload_n (pc' := 26) ja_M_made_25 rfl rfl ?_
        refine q_getf (pc' := 29) (v := .ref 166) ja_M_made_26 rfl (by decide) ⟨rfl, by decide⟩ rfl ?_
        refine q_iload_n (pc' := 30) ja_M_made_29 rfl rfl ?_
        refine q_iald (pc' := 31) (v := .int (s 166 a1.toNatClampNeg)) ja_M_made_30 rfl (by decide) (l := 4) rfl (k4 h2 h4 h5) rfl ?_
        refine q_iconst (pc' := 32) ja_M_made_31 rfl 4 (by decide) ?_
        refine q_isub (pc' := 33) ja_M_made_32 rfl ?_
        refine q_stat (pc' := 36) (as := [.int a2, .int 0, .int ((s 166 a1.toNatClampNeg) - 4)]) (r := []) ja_M_made_33 rfl (by decide) rfl rfl ?_
        refine q_in (M := jm_M_in) rfl (Nat.le_of_ble_eq_true rfl) (ls := [some (.int a2), some (.int 0), some (.int ((s 166 a1.toNatClampNeg) - 4))]) rfl ?_
        refine q_iload_n (pc' := 1) ja_M_in_0 rfl rfl ?_
        refine q_iload_n (pc' := 2) ja_M_in_1 rfl rfl ?_
        refine q_ic_lt (pc' := 5) ja_M_in_2 rfl ?_ ?_
        · intro h6
          refine q_iconst (pc' := 15) ja_M_in_14 rfl 0 (by decide) ?_
          refine q_iret ja_M_in_15 rfl (by decide) ?_
          show q_W _ _ _ _ 36 [some (.ref 146), some (.int a1), some (.int a2), none] [.int 0] s
          refine q_if_ne (pc' := 39) ja_M_made_36 rfl (fun h => absurd ((by decide : (0 : Int32) = 0)) h) (fun _ => ?_)
          refine q_bipush (pc' := 41) ja_M_made_39 rfl (-12) (by decide) ?_
          exact q_iret ja_M_made_41 rfl rfl (k5 h2 h4 h5 h6)
        · intro h7
          refine q_iload_n (pc' := 6) ja_M_in_5 rfl rfl ?_
          refine q_iload_n (pc' := 7) ja_M_in_6 rfl rfl ?_
          refine q_ic_gt (pc' := 10) ja_M_in_7 rfl ?_ ?_
          · intro h8
            refine q_iconst (pc' := 15) ja_M_in_14 rfl 0 (by decide) ?_
            refine q_iret ja_M_in_15 rfl (by decide) ?_
            show q_W _ _ _ _ 36 [some (.ref 146), some (.int a1), some (.int a2), none] [.int 0] s
            refine q_if_ne (pc' := 39) ja_M_made_36 rfl (fun h => absurd ((by decide : (0 : Int32) = 0)) h) (fun _ => ?_)
            refine q_bipush (pc' := 41) ja_M_made_39 rfl (-12) (by decide) ?_
            exact q_iret ja_M_made_41 rfl rfl (k6 h2 h4 h5 h7 h8)
          · intro h9
            refine q_iconst (pc' := 11) ja_M_in_10 rfl 1 (by decide) ?_
            refine q_goto ja_M_in_11 ?_
            refine q_iret ja_M_in_15 rfl (by decide) ?_
            show q_W _ _ _ _ 36 [some (.ref 146), some (.int a1), some (.int a2), none] [.int 1] s
            refine q_if_ne (pc' := 39) ja_M_made_36 rfl (fun _ => ?_) (fun h => absurd h ((by decide : ¬ (1 : Int32) = 0)))
            refine q_bipush (pc' := 44) ja_M_made_42 rfl 40 (by decide) ?_
            refine q_iload_n (pc' := 45) ja_M_made_44 rfl rfl ?_
            refine q_imul (pc' := 46) ja_M_made_45 rfl ?_
            refine q_iload_n (pc' := 47) ja_M_made_46 rfl rfl ?_
            refine q_iadd (pc' := 48) ja_M_made_47 rfl ?_
            refine q_istore_n (pc' := 49) (ls' := [some (.ref 146), some (.int a1), some (.int a2), some (.int ((40 * a1) + a2))]) ja_M_made_48 rfl ⟨Nat.le_of_ble_eq_true rfl, rfl⟩ rfl ?_
            refine q_aload_n (pc' := 50) ja_M_made_49 rfl rfl ?_
            refine q_aload_n (pc' := 51) ja_M_made_50 rfl rfl ?_
            refine q_getf (pc' := 54) (v := .ref 167) ja_M_made_51 rfl (by decide) ⟨rfl, by decide⟩ rfl ?_
            refine q_iload_n (pc' := 55) ja_M_made_54 rfl rfl ?_
            refine q_iald (pc' := 56) (v := .int (s 167 ((40 * a1) + a2).toNatClampNeg)) ja_M_made_55 rfl (by decide) (l := 160) rfl (k7 h2 h4 h5 h7 h9) rfl ?_
            refine q_aload_n (pc' := 57) ja_M_made_56 rfl rfl ?_
            refine q_getf (pc' := 60) (v := .ref 167) ja_M_made_57 rfl (by decide) ⟨rfl, by decide⟩ rfl ?_
            refine q_iload_n (pc' := 61) ja_M_made_60 rfl rfl ?_
            refine q_iconst (pc' := 62) ja_M_made_61 rfl 1 (by decide) ?_
            refine q_iadd (pc' := 63) ja_M_made_62 rfl ?_
            refine q_iald (pc' := 64) (v := .int (s 167 (((40 * a1) + a2) + 1).toNatClampNeg)) ja_M_made_63 rfl (by decide) (l := 160) rfl (k8 h2 h4 h5 h7 h9) rfl ?_
            refine q_aload_n (pc' := 65) ja_M_made_64 rfl rfl ?_
            refine q_getf (pc' := 68) (v := .ref 167) ja_M_made_65 rfl (by decide) ⟨rfl, by decide⟩ rfl ?_
            refine q_iload_n (pc' := 69) ja_M_made_68 rfl rfl ?_
            refine q_iconst (pc' := 70) ja_M_made_69 rfl 2 (by decide) ?_
            refine q_iadd (pc' := 71) ja_M_made_70 rfl ?_
            refine q_iald (pc' := 72) (v := .int (s 167 (((40 * a1) + a2) + 2).toNatClampNeg)) ja_M_made_71 rfl (by decide) (l := 160) rfl (k9 h2 h4 h5 h7 h9) rfl ?_
            refine q_aload_n (pc' := 73) ja_M_made_72 rfl rfl ?_
            refine q_getf (pc' := 76) (v := .ref 167) ja_M_made_73 rfl (by decide) ⟨rfl, by decide⟩ rfl ?_
            refine q_iload_n (pc' := 77) ja_M_made_76 rfl rfl ?_
            refine q_iconst (pc' := 78) ja_M_made_77 rfl 3 (by decide) ?_
            refine q_iadd (pc' := 79) ja_M_made_78 rfl ?_
            refine q_iald (pc' := 80) (v := .int (s 167 (((40 * a1) + a2) + 3).toNatClampNeg)) ja_M_made_79 rfl (by decide) (l := 160) rfl (k10 h2 h4 h5 h7 h9) rfl ?_
            refine q_virt (pc' := 83) (c := 146) (as := [.int (s 167 ((40 * a1) + a2).toNatClampNeg), .int (s 167 (((40 * a1) + a2) + 1).toNatClampNeg), .int (s 167 (((40 * a1) + a2) + 2).toNatClampNeg), .int (s 167 (((40 * a1) + a2) + 3).toNatClampNeg)]) (r := []) ja_M_made_80 rfl rfl rfl (by decide) ⟨rfl, by decide⟩ ?_
            exact (k11 h2 h4 h5 h7 h9)
      · intro h10
        refine q_bipush (pc' := 22) ja_M_made_20 rfl (-11) (by decide) ?_
        exact q_iret ja_M_made_22 rfl rfl (k12 h2 h4 h10)
set_option maxRecDepth 20000 in
theorem t_M_made_83 {G : jv_X} {d : Nat} {B : Option Value → jg_H → Prop} {s : jg_H} (x1 : Int32) (x2 : Int32) (x3 : Int32) (y0 : Int32)
    (k1 : B (some (.int y0)) s) :
    q_W G (d + 2) jm_M_made B 83 [some (.ref 146), some (.int x1), some (.int x2), some (.int x3)] [.int y0] s := by
  exact q_iret ja_M_made_83 rfl rfl k1
set_option maxRecDepth 20000 in
theorem t_M_member {G : jv_X} {d : Nat} {B : Option Value → jg_H → Prop} {s : jg_H} (a1 : Int32)
    (k1 : a1 < 0 → B (some (.int (-2))) s)
    (k2 : ¬ a1 < 0 → ¬ a1 ≤ 3 → B (some (.int (-2))) s)
    (k3 : ¬ a1 < 0 → a1 ≤ 3 → ¬ (s 146 0) = 15 → jv_in (s 146 0) 15 = true)
    (k4 : ¬ a1 < 0 → a1 ≤ 3 → ¬ (s 146 0) = 15 → ∀ s1 : jg_H, s1 = jg_up s 147 (s 146 0).toNatClampNeg a1 → jv_in (s1 146 0) 15 = true)
    (k5 : ¬ a1 < 0 → a1 ≤ 3 → ¬ (s 146 0) = 15 → ∀ s1 : jg_H, s1 = jg_up s 147 (s 146 0).toNatClampNeg a1 → ∀ s2 : jg_H, s2 = jg_up s1 149 (s1 146 0).toNatClampNeg (-1) → jv_in (s2 146 0) 15 = true)
    (k6 : ¬ a1 < 0 → a1 ≤ 3 → ¬ (s 146 0) = 15 → ∀ s1 : jg_H, s1 = jg_up s 147 (s 146 0).toNatClampNeg a1 → ∀ s2 : jg_H, s2 = jg_up s1 149 (s1 146 0).toNatClampNeg (-1) → ∀ s3 : jg_H, s3 = jg_up s2 151 (s2 146 0).toNatClampNeg 1 → ∀ s4 : jg_H, s4 = jg_up s3 146 0 ((s3 146 0) + 1) → B (some (.int ((s4 146 0) - 1))) s4)
    (k7 : ¬ a1 < 0 → a1 ≤ 3 → (s 146 0) = 15 → B (some (.int (-4))) s) :
    q_P G (d + 2) 151 [.ref 146, .int a1] s B := by
  refine q_in (M := jm_M_member) rfl (Nat.le_of_ble_eq_true rfl) (ls := [some (.ref 146), some (.int a1)]) rfl ?_
  refine q_iload_n (pc' := 1) ja_M_member_0 rfl rfl ?_
  refine q_iconst (pc' := 2) ja_M_member_1 rfl 0 (by decide) ?_
  refine q_iconst (pc' := 3) ja_M_member_2 rfl 3 (by decide) ?_
  refine q_stat (pc' := 6) (as := [.int a1, .int 0, .int 3]) (r := []) ja_M_member_3 rfl (by decide) rfl rfl ?_
  refine q_in (M := jm_M_in) rfl (Nat.le_of_ble_eq_true rfl) (ls := [some (.int a1), some (.int 0), some (.int 3)]) rfl ?_
  refine q_iload_n (pc' := 1) ja_M_in_0 rfl rfl ?_
  refine q_iload_n (pc' := 2) ja_M_in_1 rfl rfl ?_
  refine q_ic_lt (pc' := 5) ja_M_in_2 rfl ?_ ?_
  · intro h1
    refine q_iconst (pc' := 15) ja_M_in_14 rfl 0 (by decide) ?_
    refine q_iret ja_M_in_15 rfl (by decide) ?_
    show q_W _ _ _ _ 6 [some (.ref 146), some (.int a1)] [.int 0] s
    refine q_if_ne (pc' := 9) ja_M_member_6 rfl (fun h => absurd ((by decide : (0 : Int32) = 0)) h) (fun _ => ?_)
    refine q_bipush (pc' := 11) ja_M_member_9 rfl (-2) (by decide) ?_
    exact q_iret ja_M_member_11 rfl rfl (k1 h1)
  · intro h2
    refine q_iload_n (pc' := 6) ja_M_in_5 rfl rfl ?_
    refine q_iload_n (pc' := 7) ja_M_in_6 rfl rfl ?_
    refine q_ic_gt (pc' := 10) ja_M_in_7 rfl ?_ ?_
    · intro h3
      refine q_iconst (pc' := 15) ja_M_in_14 rfl 0 (by decide) ?_
      refine q_iret ja_M_in_15 rfl (by decide) ?_
      show q_W _ _ _ _ 6 [some (.ref 146), some (.int a1)] [.int 0] s
      refine q_if_ne (pc' := 9) ja_M_member_6 rfl (fun h => absurd ((by decide : (0 : Int32) = 0)) h) (fun _ => ?_)
      refine q_bipush (pc' := 11) ja_M_member_9 rfl (-2) (by decide) ?_
      exact q_iret ja_M_member_11 rfl rfl (k2 h2 h3)
    · intro h4
      refine q_iconst (pc' := 11) ja_M_in_10 rfl 1 (by decide) ?_
      refine q_goto ja_M_in_11 ?_
      refine q_iret ja_M_in_15 rfl (by decide) ?_
      show q_W _ _ _ _ 6 [some (.ref 146), some (.int a1)] [.int 1] s
      refine q_if_ne (pc' := 9) ja_M_member_6 rfl (fun _ => ?_) (fun h => absurd h ((by decide : ¬ (1 : Int32) = 0)))
      refine q_aload_n (pc' := 13) ja_M_member_12 rfl rfl ?_
      refine q_getf (pc' := 16) (v := .int (s 146 0)) ja_M_member_13 rfl (by decide) ⟨rfl, by decide⟩ rfl ?_
      refine q_bipush (pc' := 18) ja_M_member_16 rfl 15 (by decide) ?_
      refine q_ic_ne (pc' := 21) ja_M_member_18 rfl ?_ ?_
      · intro h5
        refine q_aload_n (pc' := 25) ja_M_member_24 rfl rfl ?_
        refine q_getf (pc' := 28) (v := .ref 147) ja_M_member_25 rfl (by decide) ⟨rfl, by decide⟩ rfl ?_
        refine q_aload_n (pc' := 29) ja_M_member_28 rfl rfl ?_
        refine q_getf (pc' := 32) (v := .int (s 146 0)) ja_M_member_29 rfl (by decide) ⟨rfl, by decide⟩ rfl ?_
        refine q_iload_n (pc' := 33) ja_M_member_32 rfl rfl ?_
        refine q_iast (pc' := 34) ja_M_member_33 rfl (by decide) (l := 15) rfl (k3 h2 h4 h5) ?_
        intro s1 e1
        refine q_aload_n (pc' := 35) ja_M_member_34 rfl rfl ?_
        refine q_getf (pc' := 38) (v := .ref 149) ja_M_member_35 rfl (by decide) ⟨rfl, by decide⟩ rfl ?_
        refine q_aload_n (pc' := 39) ja_M_member_38 rfl rfl ?_
        refine q_getf (pc' := 42) (v := .int (s1 146 0)) ja_M_member_39 rfl (by decide) ⟨rfl, by decide⟩ rfl ?_
        refine q_iconst (pc' := 43) ja_M_member_42 rfl (-1) (by decide) ?_
        refine q_iast (pc' := 44) ja_M_member_43 rfl (by decide) (l := 15) rfl (k4 h2 h4 h5 s1 e1) ?_
        intro s2 e2
        refine q_aload_n (pc' := 45) ja_M_member_44 rfl rfl ?_
        refine q_getf (pc' := 48) (v := .ref 151) ja_M_member_45 rfl (by decide) ⟨rfl, by decide⟩ rfl ?_
        refine q_aload_n (pc' := 49) ja_M_member_48 rfl rfl ?_
        refine q_getf (pc' := 52) (v := .int (s2 146 0)) ja_M_member_49 rfl (by decide) ⟨rfl, by decide⟩ rfl ?_
        refine q_iconst (pc' := 53) ja_M_member_52 rfl 1 (by decide) ?_
        refine q_bast (pc' := 54) ja_M_member_53 rfl (by decide) (l := 15) rfl (k5 h2 h4 h5 s1 e1 s2 e2) (by decide) ?_
        intro s3 e3
        refine q_aload_n (pc' := 55) ja_M_member_54 rfl rfl ?_
        refine q_dup (pc' := 56) ja_M_member_55 rfl rfl ?_
        refine q_getf (pc' := 59) (v := .int (s3 146 0)) ja_M_member_56 rfl (by decide) ⟨rfl, by decide⟩ rfl ?_
        refine q_iconst (pc' := 60) ja_M_member_59 rfl 1 (by decide) ?_
        refine q_iadd (pc' := 61) ja_M_member_60 rfl ?_
        refine q_putf (pc' := 64) ja_M_member_61 rfl (by decide) rfl rfl rfl ?_
        intro s4 e4
        refine q_aload_n (pc' := 65) ja_M_member_64 rfl rfl ?_
        refine q_getf (pc' := 68) (v := .int (s4 146 0)) ja_M_member_65 rfl (by decide) ⟨rfl, by decide⟩ rfl ?_
        refine q_iconst (pc' := 69) ja_M_member_68 rfl 1 (by decide) ?_
        refine q_isub (pc' := 70) ja_M_member_69 rfl ?_
        exact q_iret ja_M_member_70 rfl rfl (k6 h2 h4 h5 s1 e1 s2 e2 s3 e3 s4 e4)
      · intro h6
        refine q_bipush (pc' := 23) ja_M_member_21 rfl (-4) (by decide) ?_
        exact q_iret ja_M_member_23 rfl rfl (k7 h2 h4 h6)
set_option maxRecDepth 20000 in
theorem t_M_memberTold {G : jv_X} {d : Nat} {B : Option Value → jg_H → Prop} {s : jg_H} (a1 : Int32) (a2 : Int32)
    (k1 : a1 < 0 → B (some (.int (-2))) s)
    (k2 : ¬ a1 < 0 → ¬ a1 ≤ ((s 146 0) - 1) → B (some (.int (-2))) s)
    (k3 : ¬ a1 < 0 → a1 ≤ ((s 146 0) - 1) → a2 < 0 → B (some (.int (-2))) s)
    (k4 : ¬ a1 < 0 → a1 ≤ ((s 146 0) - 1) → ¬ a2 < 0 → ¬ a2 ≤ 3 → B (some (.int (-2))) s)
    (k5 : ¬ a1 < 0 → a1 ≤ ((s 146 0) - 1) → ¬ a2 < 0 → a2 ≤ 3 → ¬ a2 = 0 → ¬ a2 = 1 → ¬ a2 = 2 → jv_in a1 15 = true)
    (k6 : ¬ a1 < 0 → a1 ≤ ((s 146 0) - 1) → ¬ a2 < 0 → a2 ≤ 3 → ¬ a2 = 0 → ¬ a2 = 1 → ¬ a2 = 2 → B (some (.int (s 150 a1.toNatClampNeg))) s)
    (k7 : ¬ a1 < 0 → a1 ≤ ((s 146 0) - 1) → ¬ a2 < 0 → a2 ≤ 3 → ¬ a2 = 0 → ¬ a2 = 1 → a2 = 2 → jv_in a1 15 = true)
    (k8 : ¬ a1 < 0 → a1 ≤ ((s 146 0) - 1) → ¬ a2 < 0 → a2 ≤ 3 → ¬ a2 = 0 → ¬ a2 = 1 → a2 = 2 → B (some (.int (s 149 a1.toNatClampNeg))) s)
    (k9 : ¬ a1 < 0 → a1 ≤ ((s 146 0) - 1) → ¬ a2 < 0 → a2 ≤ 3 → ¬ a2 = 0 → a2 = 1 → jv_in a1 15 = true)
    (k10 : ¬ a1 < 0 → a1 ≤ ((s 146 0) - 1) → ¬ a2 < 0 → a2 ≤ 3 → ¬ a2 = 0 → a2 = 1 → (s 151 a1.toNatClampNeg) = 0 → B (some (.int 0)) s)
    (k11 : ¬ a1 < 0 → a1 ≤ ((s 146 0) - 1) → ¬ a2 < 0 → a2 ≤ 3 → ¬ a2 = 0 → a2 = 1 → ¬ (s 151 a1.toNatClampNeg) = 0 → B (some (.int 1)) s)
    (k12 : ¬ a1 < 0 → a1 ≤ ((s 146 0) - 1) → ¬ a2 < 0 → a2 ≤ 3 → a2 = 0 → jv_in a1 15 = true)
    (k13 : ¬ a1 < 0 → a1 ≤ ((s 146 0) - 1) → ¬ a2 < 0 → a2 ≤ 3 → a2 = 0 → B (some (.int (s 147 a1.toNatClampNeg))) s) :
    q_P G (d + 3) 160 [.ref 146, .int a1, .int a2] s B := by
  refine q_in (M := jm_M_memberTold) rfl (Nat.le_of_ble_eq_true rfl) (ls := [some (.ref 146), some (.int a1), some (.int a2)]) rfl ?_
  refine q_aload_n (pc' := 1) ja_M_memberTold_0 rfl rfl ?_
  refine q_iload_n (pc' := 2) ja_M_memberTold_1 rfl rfl ?_
  refine q_virt (pc' := 5) (c := 146) (as := [.int a1]) (r := []) ja_M_memberTold_2 rfl rfl rfl (by decide) ⟨rfl, by decide⟩ ?_
  refine q_in (M := jm_M_isMember) rfl (Nat.le_of_ble_eq_true rfl) (ls := [some (.ref 146), some (.int a1)]) rfl ?_
  refine q_iload_n (pc' := 1) ja_M_isMember_0 rfl rfl ?_
  refine q_iconst (pc' := 2) ja_M_isMember_1 rfl 0 (by decide) ?_
  refine q_aload_n (pc' := 3) ja_M_isMember_2 rfl rfl ?_
  refine q_getf (pc' := 6) (v := .int (s 146 0)) ja_M_isMember_3 rfl (by decide) ⟨rfl, by decide⟩ rfl ?_
  refine q_iconst (pc' := 7) ja_M_isMember_6 rfl 1 (by decide) ?_
  refine q_isub (pc' := 8) ja_M_isMember_7 rfl ?_
  refine q_stat (pc' := 11) (as := [.int a1, .int 0, .int ((s 146 0) - 1)]) (r := []) ja_M_isMember_8 rfl (by decide) rfl rfl ?_
  refine q_in (M := jm_M_in) rfl (Nat.le_of_ble_eq_true rfl) (ls := [some (.int a1), some (.int 0), some (.int ((s 146 0) - 1))]) rfl ?_
  refine q_iload_n (pc' := 1) ja_M_in_0 rfl rfl ?_
  refine q_iload_n (pc' := 2) ja_M_in_1 rfl rfl ?_
  refine q_ic_lt (pc' := 5) ja_M_in_2 rfl ?_ ?_
  · intro h1
    refine q_iconst (pc' := 15) ja_M_in_14 rfl 0 (by decide) ?_
    refine q_iret ja_M_in_15 rfl (by decide) ?_
    show q_W _ _ _ _ 11 [some (.ref 146), some (.int a1)] [.int 0] s
    refine q_iret ja_M_isMember_11 rfl (by decide) ?_
    show q_W _ _ _ _ 5 [some (.ref 146), some (.int a1), some (.int a2)] [.int 0] s
    refine q_if_eq (pc' := 8) ja_M_memberTold_5 rfl (fun _ => ?_) (fun h => absurd ((by decide : (0 : Int32) = 0)) h)
    refine q_bipush (pc' := 19) ja_M_memberTold_17 rfl (-2) (by decide) ?_
    exact q_iret ja_M_memberTold_19 rfl rfl (k1 h1)
  · intro h2
    refine q_iload_n (pc' := 6) ja_M_in_5 rfl rfl ?_
    refine q_iload_n (pc' := 7) ja_M_in_6 rfl rfl ?_
    refine q_ic_gt (pc' := 10) ja_M_in_7 rfl ?_ ?_
    · intro h3
      refine q_iconst (pc' := 15) ja_M_in_14 rfl 0 (by decide) ?_
      refine q_iret ja_M_in_15 rfl (by decide) ?_
      show q_W _ _ _ _ 11 [some (.ref 146), some (.int a1)] [.int 0] s
      refine q_iret ja_M_isMember_11 rfl (by decide) ?_
      show q_W _ _ _ _ 5 [some (.ref 146), some (.int a1), some (.int a2)] [.int 0] s
      refine q_if_eq (pc' := 8) ja_M_memberTold_5 rfl (fun _ => ?_) (fun h => absurd ((by decide : (0 : Int32) = 0)) h)
      refine q_bipush (pc' := 19) ja_M_memberTold_17 rfl (-2) (by decide) ?_
      exact q_iret ja_M_memberTold_19 rfl rfl (k2 h2 h3)
    · intro h4
      refine q_iconst (pc' := 11) ja_M_in_10 rfl 1 (by decide) ?_
      refine q_goto ja_M_in_11 ?_
      refine q_iret ja_M_in_15 rfl (by decide) ?_
      show q_W _ _ _ _ 11 [some (.ref 146), some (.int a1)] [.int 1] s
      refine q_iret ja_M_isMember_11 rfl (by decide) ?_
      show q_W _ _ _ _ 5 [some (.ref 146), some (.int a1), some (.int a2)] [.int 1] s
      refine q_if_eq (pc' := 8) ja_M_memberTold_5 rfl (fun h => absurd h ((by decide : ¬ (1 : Int32) = 0))) (fun _ => ?_)
      refine q_iload_n (pc' := 9) ja_M_memberTold_8 rfl rfl ?_
      refine q_iconst (pc' := 10) ja_M_memberTold_9 rfl 0 (by decide) ?_
      refine q_iconst (pc' := 11) ja_M_memberTold_10 rfl 3 (by decide) ?_
      refine q_stat (pc' := 14) (as := [.int a2, .int 0, .int 3]) (r := []) ja_M_memberTold_11 rfl (by decide) rfl rfl ?_
      refine q_in (M := jm_M_in) rfl (Nat.le_of_ble_eq_true rfl) (ls := [some (.int a2), some (.int 0), some (.int 3)]) rfl ?_
      refine q_iload_n (pc' := 1) ja_M_in_0 rfl rfl ?_
      refine q_iload_n (pc' := 2) ja_M_in_1 rfl rfl ?_
      refine q_ic_lt (pc' := 5) ja_M_in_2 rfl ?_ ?_
      · intro h5
        refine q_iconst (pc' := 15) ja_M_in_14 rfl 0 (by decide) ?_
        refine q_iret ja_M_in_15 rfl (by decide) ?_
        show q_W _ _ _ _ 14 [some (.ref 146), some (.int a1), some (.int a2)] [.int 0] s
        refine q_if_ne (pc' := 17) ja_M_memberTold_14 rfl (fun h => absurd ((by decide : (0 : Int32) = 0)) h) (fun _ => ?_)
        refine q_bipush (pc' := 19) ja_M_memberTold_17 rfl (-2) (by decide) ?_
        exact q_iret ja_M_memberTold_19 rfl rfl (k3 h2 h4 h5)
      · intro h6
        refine q_iload_n (pc' := 6) ja_M_in_5 rfl rfl ?_
        refine q_iload_n (pc' := 7) ja_M_in_6 rfl rfl ?_
        refine q_ic_gt (pc' := 10) ja_M_in_7 rfl ?_ ?_
        · intro h7
          refine q_iconst (pc' := 15) ja_M_in_14 rfl 0 (by decide) ?_
          refine q_iret ja_M_in_15 rfl (by decide) ?_
          show q_W _ _ _ _ 14 [some (.ref 146), some (.int a1), some (.int a2)] [.int 0] s
          refine q_if_ne (pc' := 17) ja_M_memberTold_14 rfl (fun h => absurd ((by decide : (0 : Int32) = 0)) h) (fun _ => ?_)
          refine q_bipush (pc' := 19) ja_M_memberTold_17 rfl (-2) (by decide) ?_
          exact q_iret ja_M_memberTold_19 rfl rfl (k4 h2 h4 h6 h7)
        · intro h8
          refine q_iconst (pc' := 11) ja_M_in_10 rfl 1 (by decide) ?_
          refine q_goto ja_M_in_11 ?_
          refine q_iret ja_M_in_15 rfl (by decide) ?_
          show q_W _ _ _ _ 14 [some (.ref 146), some (.int a1), some (.int a2)] [.int 1] s
          refine q_if_ne (pc' := 17) ja_M_memberTold_14 rfl (fun _ => ?_) (fun h => absurd h ((by decide : ¬ (1 : Int32) = 0)))
          refine q_iload_n (pc' := 21) ja_M_memberTold_20 rfl rfl ?_
          refine q_if_ne (pc' := 24) ja_M_memberTold_21 rfl ?_ ?_
          · intro h9
            refine q_iload_n (pc' := 34) ja_M_memberTold_33 rfl rfl ?_
            refine q_iconst (pc' := 35) ja_M_memberTold_34 rfl 1 (by decide) ?_
            refine q_ic_ne (pc' := 38) ja_M_memberTold_35 rfl ?_ ?_
            · intro h10
              refine q_iload_n (pc' := 56) ja_M_memberTold_55 rfl rfl ?_
              refine q_iconst (pc' := 57) ja_M_memberTold_56 rfl 2 (by decide) ?_
              refine q_ic_ne (pc' := 60) ja_M_memberTold_57 rfl ?_ ?_
              · intro h11
                refine q_aload_n (pc' := 70) ja_M_memberTold_69 rfl rfl ?_
                refine q_getf (pc' := 73) (v := .ref 150) ja_M_memberTold_70 rfl (by decide) ⟨rfl, by decide⟩ rfl ?_
                refine q_iload_n (pc' := 74) ja_M_memberTold_73 rfl rfl ?_
                refine q_iald (pc' := 75) (v := .int (s 150 a1.toNatClampNeg)) ja_M_memberTold_74 rfl (by decide) (l := 15) rfl (k5 h2 h4 h6 h8 h9 h10 h11) rfl ?_
                exact q_iret ja_M_memberTold_75 rfl rfl (k6 h2 h4 h6 h8 h9 h10 h11)
              · intro h12
                refine q_aload_n (pc' := 61) ja_M_memberTold_60 rfl rfl ?_
                refine q_getf (pc' := 64) (v := .ref 149) ja_M_memberTold_61 rfl (by decide) ⟨rfl, by decide⟩ rfl ?_
                refine q_iload_n (pc' := 65) ja_M_memberTold_64 rfl rfl ?_
                refine q_iald (pc' := 66) (v := .int (s 149 a1.toNatClampNeg)) ja_M_memberTold_65 rfl (by decide) (l := 15) rfl (k7 h2 h4 h6 h8 h9 h10 h12) rfl ?_
                refine q_goto ja_M_memberTold_66 ?_
                exact q_iret ja_M_memberTold_75 rfl rfl (k8 h2 h4 h6 h8 h9 h10 h12)
            · intro h13
              refine q_aload_n (pc' := 39) ja_M_memberTold_38 rfl rfl ?_
              refine q_getf (pc' := 42) (v := .ref 151) ja_M_memberTold_39 rfl (by decide) ⟨rfl, by decide⟩ rfl ?_
              refine q_iload_n (pc' := 43) ja_M_memberTold_42 rfl rfl ?_
              refine q_bald (pc' := 44) (v := .int (s 151 a1.toNatClampNeg)) ja_M_memberTold_43 rfl (by decide) (l := 15) rfl (k9 h2 h4 h6 h8 h9 h13) rfl ?_
              refine q_if_eq (pc' := 47) ja_M_memberTold_44 rfl ?_ ?_
              · intro h14
                refine q_iconst (pc' := 52) ja_M_memberTold_51 rfl 0 (by decide) ?_
                refine q_goto ja_M_memberTold_52 ?_
                exact q_iret ja_M_memberTold_75 rfl rfl (k10 h2 h4 h6 h8 h9 h13 h14)
              · intro h15
                refine q_iconst (pc' := 48) ja_M_memberTold_47 rfl 1 (by decide) ?_
                refine q_goto ja_M_memberTold_48 ?_
                exact q_iret ja_M_memberTold_75 rfl rfl (k11 h2 h4 h6 h8 h9 h13 h15)
          · intro h16
            refine q_aload_n (pc' := 25) ja_M_memberTold_24 rfl rfl ?_
            refine q_getf (pc' := 28) (v := .ref 147) ja_M_memberTold_25 rfl (by decide) ⟨rfl, by decide⟩ rfl ?_
            refine q_iload_n (pc' := 29) ja_M_memberTold_28 rfl rfl ?_
            refine q_iald (pc' := 30) (v := .int (s 147 a1.toNatClampNeg)) ja_M_memberTold_29 rfl (by decide) (l := 15) rfl (k12 h2 h4 h6 h8 h16) rfl ?_
            refine q_goto ja_M_memberTold_30 ?_
            exact q_iret ja_M_memberTold_75 rfl rfl (k13 h2 h4 h6 h8 h16)
set_option maxRecDepth 20000 in
theorem t_M_motion {G : jv_X} {d : Nat} {B : Option Value → jg_H → Prop} {s : jg_H} (a1 : Int32) (a2 : Int32)
    (k1 : a1 < 0 → B (some (.int (-100000))) s)
    (k2 : ¬ a1 < 0 → ¬ a1 ≤ ((s 146 18) - 1) → B (some (.int (-100000))) s)
    (k3 : ¬ a1 < 0 → a1 ≤ ((s 146 18) - 1) → a2 = 0 → jv_in a1 13 = true)
    (k4 : ¬ a1 < 0 → a1 ≤ ((s 146 18) - 1) → a2 = 0 → B (some (.int (s 157 a1.toNatClampNeg))) s)
    (k5 : ¬ a1 < 0 → a1 ≤ ((s 146 18) - 1) → ¬ a2 = 0 → a2 = 1 → jv_in a1 13 = true)
    (k6 : ¬ a1 < 0 → a1 ≤ ((s 146 18) - 1) → ¬ a2 = 0 → a2 = 1 → B (some (.int (s 158 a1.toNatClampNeg))) s)
    (k7 : ¬ a1 < 0 → a1 ≤ ((s 146 18) - 1) → ¬ a2 = 0 → ¬ a2 = 1 → a2 = 2 → jv_in a1 13 = true)
    (k8 : ¬ a1 < 0 → a1 ≤ ((s 146 18) - 1) → ¬ a2 = 0 → ¬ a2 = 1 → a2 = 2 → (s 161 a1.toNatClampNeg) = 0 → jv_in a1 13 = true)
    (k9 : ¬ a1 < 0 → a1 ≤ ((s 146 18) - 1) → ¬ a2 = 0 → ¬ a2 = 1 → a2 = 2 → (s 161 a1.toNatClampNeg) = 0 → B (some (.int (s 159 a1.toNatClampNeg))) s)
    (k10 : ¬ a1 < 0 → a1 ≤ ((s 146 18) - 1) → ¬ a2 = 0 → ¬ a2 = 1 → a2 = 2 → ¬ (s 161 a1.toNatClampNeg) = 0 → jv_in (s 146 13) 8 = true)
    (k11 : ¬ a1 < 0 → a1 ≤ ((s 146 18) - 1) → ¬ a2 = 0 → ¬ a2 = 1 → a2 = 2 → ¬ (s 161 a1.toNatClampNeg) = 0 → B (some (.int (s 153 (s 146 13).toNatClampNeg))) s)
    (k12 : ¬ a1 < 0 → a1 ≤ ((s 146 18) - 1) → ¬ a2 = 0 → ¬ a2 = 1 → ¬ a2 = 2 → a2 = 3 → jv_in a1 13 = true)
    (k13 : ¬ a1 < 0 → a1 ≤ ((s 146 18) - 1) → ¬ a2 = 0 → ¬ a2 = 1 → ¬ a2 = 2 → a2 = 3 → B (some (.int (s 160 a1.toNatClampNeg))) s)
    (k14 : ¬ a1 < 0 → a1 ≤ ((s 146 18) - 1) → ¬ a2 = 0 → ¬ a2 = 1 → ¬ a2 = 2 → ¬ a2 = 3 → a2 = 4 → jv_in a1 13 = true)
    (k15 : ¬ a1 < 0 → a1 ≤ ((s 146 18) - 1) → ¬ a2 = 0 → ¬ a2 = 1 → ¬ a2 = 2 → ¬ a2 = 3 → a2 = 4 → jv_in a1 13 = true)
    (k16 : ¬ a1 < 0 → a1 ≤ ((s 146 18) - 1) → ¬ a2 = 0 → ¬ a2 = 1 → ¬ a2 = 2 → ¬ a2 = 3 → a2 = 4 → q_P G (d + 1) 185 [.ref 146, .int (s 157 a1.toNatClampNeg), .int (s 158 a1.toNatClampNeg)] s (fun v t => q_W G (d + 1) jm_M_motion B 117 [some (.ref 146), some (.int a1), some (.int a2)] (v.toList ++ []) t))
    (k17 : ¬ a1 < 0 → a1 ≤ ((s 146 18) - 1) → ¬ a2 = 0 → ¬ a2 = 1 → ¬ a2 = 2 → ¬ a2 = 3 → ¬ a2 = 4 → B (some (.int (-100000))) s) :
    q_P G (d + 2) 202 [.ref 146, .int a1, .int a2] s B := by
  refine q_in (M := jm_M_motion) rfl (Nat.le_of_ble_eq_true rfl) (ls := [some (.ref 146), some (.int a1), some (.int a2)]) rfl ?_
  refine q_iload_n (pc' := 1) ja_M_motion_0 rfl rfl ?_
  refine q_iconst (pc' := 2) ja_M_motion_1 rfl 0 (by decide) ?_
  refine q_aload_n (pc' := 3) ja_M_motion_2 rfl rfl ?_
  refine q_getf (pc' := 6) (v := .int (s 146 18)) ja_M_motion_3 rfl (by decide) ⟨rfl, by decide⟩ rfl ?_
  refine q_iconst (pc' := 7) ja_M_motion_6 rfl 1 (by decide) ?_
  refine q_isub (pc' := 8) ja_M_motion_7 rfl ?_
  refine q_stat (pc' := 11) (as := [.int a1, .int 0, .int ((s 146 18) - 1)]) (r := []) ja_M_motion_8 rfl (by decide) rfl rfl ?_
  refine q_in (M := jm_M_in) rfl (Nat.le_of_ble_eq_true rfl) (ls := [some (.int a1), some (.int 0), some (.int ((s 146 18) - 1))]) rfl ?_
  refine q_iload_n (pc' := 1) ja_M_in_0 rfl rfl ?_
  refine q_iload_n (pc' := 2) ja_M_in_1 rfl rfl ?_
  refine q_ic_lt (pc' := 5) ja_M_in_2 rfl ?_ ?_
  · intro h1
    refine q_iconst (pc' := 15) ja_M_in_14 rfl 0 (by decide) ?_
    refine q_iret ja_M_in_15 rfl (by decide) ?_
    show q_W _ _ _ _ 11 [some (.ref 146), some (.int a1), some (.int a2)] [.int 0] s
    refine q_if_ne (pc' := 14) ja_M_motion_11 rfl (fun h => absurd ((by decide : (0 : Int32) = 0)) h) (fun _ => ?_)
    refine q_ldcw (pc' := 17) ja_M_motion_14 rfl (-100000) (by decide) ?_
    exact q_iret ja_M_motion_17 rfl rfl (k1 h1)
  · intro h2
    refine q_iload_n (pc' := 6) ja_M_in_5 rfl rfl ?_
    refine q_iload_n (pc' := 7) ja_M_in_6 rfl rfl ?_
    refine q_ic_gt (pc' := 10) ja_M_in_7 rfl ?_ ?_
    · intro h3
      refine q_iconst (pc' := 15) ja_M_in_14 rfl 0 (by decide) ?_
      refine q_iret ja_M_in_15 rfl (by decide) ?_
      show q_W _ _ _ _ 11 [some (.ref 146), some (.int a1), some (.int a2)] [.int 0] s
      refine q_if_ne (pc' := 14) ja_M_motion_11 rfl (fun h => absurd ((by decide : (0 : Int32) = 0)) h) (fun _ => ?_)
      refine q_ldcw (pc' := 17) ja_M_motion_14 rfl (-100000) (by decide) ?_
      exact q_iret ja_M_motion_17 rfl rfl (k2 h2 h3)
    · intro h4
      refine q_iconst (pc' := 11) ja_M_in_10 rfl 1 (by decide) ?_
      refine q_goto ja_M_in_11 ?_
      refine q_iret ja_M_in_15 rfl (by decide) ?_
      show q_W _ _ _ _ 11 [some (.ref 146), some (.int a1), some (.int a2)] [.int 1] s
      refine q_if_ne (pc' := 14) ja_M_motion_11 rfl (fun _ => ?_) (fun h => absurd h ((by decide : ¬ (1 : Int32) = 0)))
      refine q_iload_n (pc' := 19) ja_M_motion_18 rfl rfl ?_
      by_cases h5 : a2 = 0
      · refine q_swE (pc' := 52) ja_M_motion_19 (by rw [h5]; decide) (by rw [h5]; exact ⟨_, rfl, rfl⟩) ?_
        refine q_aload_n (pc' := 53) ja_M_motion_52 rfl rfl ?_
        refine q_getf (pc' := 56) (v := .ref 157) ja_M_motion_53 rfl (by decide) ⟨rfl, by decide⟩ rfl ?_
        refine q_iload_n (pc' := 57) ja_M_motion_56 rfl rfl ?_
        refine q_iald (pc' := 58) (v := .int (s 157 a1.toNatClampNeg)) ja_M_motion_57 rfl (by decide) (l := 13) rfl (k3 h2 h4 h5) rfl ?_
        exact q_iret ja_M_motion_58 rfl rfl (k4 h2 h4 h5)
      by_cases h6 : a2 = 1
      · refine q_swE (pc' := 59) ja_M_motion_19 (by rw [h6]; decide) (by rw [h6]; exact ⟨_, rfl, rfl⟩) ?_
        refine q_aload_n (pc' := 60) ja_M_motion_59 rfl rfl ?_
        refine q_getf (pc' := 63) (v := .ref 158) ja_M_motion_60 rfl (by decide) ⟨rfl, by decide⟩ rfl ?_
        refine q_iload_n (pc' := 64) ja_M_motion_63 rfl rfl ?_
        refine q_iald (pc' := 65) (v := .int (s 158 a1.toNatClampNeg)) ja_M_motion_64 rfl (by decide) (l := 13) rfl (k5 h2 h4 h5 h6) rfl ?_
        exact q_iret ja_M_motion_65 rfl rfl (k6 h2 h4 h5 h6)
      by_cases h7 : a2 = 2
      · refine q_swE (pc' := 66) ja_M_motion_19 (by rw [h7]; decide) (by rw [h7]; exact ⟨_, rfl, rfl⟩) ?_
        refine q_aload_n (pc' := 67) ja_M_motion_66 rfl rfl ?_
        refine q_getf (pc' := 70) (v := .ref 161) ja_M_motion_67 rfl (by decide) ⟨rfl, by decide⟩ rfl ?_
        refine q_iload_n (pc' := 71) ja_M_motion_70 rfl rfl ?_
        refine q_bald (pc' := 72) (v := .int (s 161 a1.toNatClampNeg)) ja_M_motion_71 rfl (by decide) (l := 13) rfl (k7 h2 h4 h5 h6 h7) rfl ?_
        refine q_if_eq (pc' := 75) ja_M_motion_72 rfl ?_ ?_
        · intro h8
          refine q_aload_n (pc' := 88) ja_M_motion_87 rfl rfl ?_
          refine q_getf (pc' := 91) (v := .ref 159) ja_M_motion_88 rfl (by decide) ⟨rfl, by decide⟩ rfl ?_
          refine q_iload_n (pc' := 92) ja_M_motion_91 rfl rfl ?_
          refine q_iald (pc' := 93) (v := .int (s 159 a1.toNatClampNeg)) ja_M_motion_92 rfl (by decide) (l := 13) rfl (k8 h2 h4 h5 h6 h7 h8) rfl ?_
          exact q_iret ja_M_motion_93 rfl rfl (k9 h2 h4 h5 h6 h7 h8)
        · intro h9
          refine q_aload_n (pc' := 76) ja_M_motion_75 rfl rfl ?_
          refine q_getf (pc' := 79) (v := .ref 153) ja_M_motion_76 rfl (by decide) ⟨rfl, by decide⟩ rfl ?_
          refine q_aload_n (pc' := 80) ja_M_motion_79 rfl rfl ?_
          refine q_getf (pc' := 83) (v := .int (s 146 13)) ja_M_motion_80 rfl (by decide) ⟨rfl, by decide⟩ rfl ?_
          refine q_iald (pc' := 84) (v := .int (s 153 (s 146 13).toNatClampNeg)) ja_M_motion_83 rfl (by decide) (l := 8) rfl (k10 h2 h4 h5 h6 h7 h9) rfl ?_
          refine q_goto ja_M_motion_84 ?_
          exact q_iret ja_M_motion_93 rfl rfl (k11 h2 h4 h5 h6 h7 h9)
      by_cases h10 : a2 = 3
      · refine q_swE (pc' := 94) ja_M_motion_19 (by rw [h10]; decide) (by rw [h10]; exact ⟨_, rfl, rfl⟩) ?_
        refine q_aload_n (pc' := 95) ja_M_motion_94 rfl rfl ?_
        refine q_getf (pc' := 98) (v := .ref 160) ja_M_motion_95 rfl (by decide) ⟨rfl, by decide⟩ rfl ?_
        refine q_iload_n (pc' := 99) ja_M_motion_98 rfl rfl ?_
        refine q_iald (pc' := 100) (v := .int (s 160 a1.toNatClampNeg)) ja_M_motion_99 rfl (by decide) (l := 13) rfl (k12 h2 h4 h5 h6 h7 h10) rfl ?_
        exact q_iret ja_M_motion_100 rfl rfl (k13 h2 h4 h5 h6 h7 h10)
      by_cases h11 : a2 = 4
      · refine q_swE (pc' := 101) ja_M_motion_19 (by rw [h11]; decide) (by rw [h11]; exact ⟨_, rfl, rfl⟩) ?_
        refine q_aload_n (pc' := 102) ja_M_motion_101 rfl rfl ?_
        refine q_aload_n (pc' := 103) ja_M_motion_102 rfl rfl ?_
        refine q_getf (pc' := 106) (v := .ref 157) ja_M_motion_103 rfl (by decide) ⟨rfl, by decide⟩ rfl ?_
        refine q_iload_n (pc' := 107) ja_M_motion_106 rfl rfl ?_
        refine q_iald (pc' := 108) (v := .int (s 157 a1.toNatClampNeg)) ja_M_motion_107 rfl (by decide) (l := 13) rfl (k14 h2 h4 h5 h6 h7 h10 h11) rfl ?_
        refine q_aload_n (pc' := 109) ja_M_motion_108 rfl rfl ?_
        refine q_getf (pc' := 112) (v := .ref 158) ja_M_motion_109 rfl (by decide) ⟨rfl, by decide⟩ rfl ?_
        refine q_iload_n (pc' := 113) ja_M_motion_112 rfl rfl ?_
        refine q_iald (pc' := 114) (v := .int (s 158 a1.toNatClampNeg)) ja_M_motion_113 rfl (by decide) (l := 13) rfl (k15 h2 h4 h5 h6 h7 h10 h11) rfl ?_
        refine q_virt (pc' := 117) (c := 146) (as := [.int (s 157 a1.toNatClampNeg), .int (s 158 a1.toNatClampNeg)]) (r := []) ja_M_motion_114 rfl rfl rfl (by decide) ⟨rfl, by decide⟩ ?_
        exact (k16 h2 h4 h5 h6 h7 h10 h11)
      refine q_swD (pc' := 118) ja_M_motion_19 [0, 1, 2, 3, 4] (List.forall_mem_cons.mpr ⟨fun e => h5 (by rw [e]; decide), (List.forall_mem_cons.mpr ⟨fun e => h6 (by rw [e]; decide), (List.forall_mem_cons.mpr ⟨fun e => h7 (by rw [e]; decide), (List.forall_mem_cons.mpr ⟨fun e => h10 (by rw [e]; decide), (List.forall_mem_cons.mpr ⟨fun e => h11 (by rw [e]; decide), (List.forall_mem_nil _)⟩)⟩)⟩)⟩)⟩) (by decide) rfl ?_
      refine q_ldcw (pc' := 121) ja_M_motion_118 rfl (-100000) (by decide) ?_
      exact q_iret ja_M_motion_121 rfl rfl (k17 h2 h4 h5 h6 h7 h10 h11)
set_option maxRecDepth 20000 in
theorem t_M_motion_117 {G : jv_X} {d : Nat} {B : Option Value → jg_H → Prop} {s : jg_H} (x1 : Int32) (x2 : Int32) (y0 : Int32)
    (k1 : B (some (.int y0)) s) :
    q_W G (d + 1) jm_M_motion B 117 [some (.ref 146), some (.int x1), some (.int x2)] [.int y0] s := by
  exact q_iret ja_M_motion_117 rfl rfl k1
set_option maxRecDepth 20000 in
theorem t_M_named {G : jv_X} {d : Nat} {B : Option Value → jg_H → Prop} {s : jg_H} (a1 : Int32)
    (k1 : a1 = 0 → B (some (.int (s 146 48))) s)
    (k2 : ¬ a1 = 0 → a1 = 1 → B (some (.int (s 146 50))) s)
    (k3 : ¬ a1 = 0 → ¬ a1 = 1 → a1 = 2 → B (some (.int (s 146 17))) s)
    (k4 : ¬ a1 = 0 → ¬ a1 = 1 → ¬ a1 = 2 → a1 = 3 → B (some (.int (s 146 49))) s)
    (k5 : ¬ a1 = 0 → ¬ a1 = 1 → ¬ a1 = 2 → ¬ a1 = 3 → a1 = 4 → q_P G d 180 [.ref 146] s (fun v t => q_W G d jm_M_named B 68 [some (.ref 146), some (.int a1)] (v.toList ++ []) t))
    (k6 : ¬ a1 = 0 → ¬ a1 = 1 → ¬ a1 = 2 → ¬ a1 = 3 → ¬ a1 = 4 → a1 = 5 → B (some (.int (s 146 0))) s)
    (k7 : ¬ a1 = 0 → ¬ a1 = 1 → ¬ a1 = 2 → ¬ a1 = 3 → ¬ a1 = 4 → ¬ a1 = 5 → a1 = 6 → B (some (.int (s 146 51))) s)
    (k8 : ¬ a1 = 0 → ¬ a1 = 1 → ¬ a1 = 2 → ¬ a1 = 3 → ¬ a1 = 4 → ¬ a1 = 5 → ¬ a1 = 6 → B (some (.int (s 146 52))) s) :
    q_P G (d + 1) 179 [.ref 146, .int a1] s B := by
  refine q_in (M := jm_M_named) rfl (Nat.le_of_ble_eq_true rfl) (ls := [some (.ref 146), some (.int a1)]) rfl ?_
  refine q_iload_n (pc' := 1) ja_M_named_0 rfl rfl ?_
  by_cases h1 : a1 = 0
  · refine q_swE (pc' := 44) ja_M_named_1 (by rw [h1]; decide) (by rw [h1]; exact ⟨_, rfl, rfl⟩) ?_
    refine q_aload_n (pc' := 45) ja_M_named_44 rfl rfl ?_
    refine q_getf (pc' := 48) (v := .int (s 146 48)) ja_M_named_45 rfl (by decide) ⟨rfl, by decide⟩ rfl ?_
    exact q_iret ja_M_named_48 rfl rfl (k1 h1)
  by_cases h2 : a1 = 1
  · refine q_swE (pc' := 49) ja_M_named_1 (by rw [h2]; decide) (by rw [h2]; exact ⟨_, rfl, rfl⟩) ?_
    refine q_aload_n (pc' := 50) ja_M_named_49 rfl rfl ?_
    refine q_getf (pc' := 53) (v := .int (s 146 50)) ja_M_named_50 rfl (by decide) ⟨rfl, by decide⟩ rfl ?_
    exact q_iret ja_M_named_53 rfl rfl (k2 h1 h2)
  by_cases h3 : a1 = 2
  · refine q_swE (pc' := 54) ja_M_named_1 (by rw [h3]; decide) (by rw [h3]; exact ⟨_, rfl, rfl⟩) ?_
    refine q_aload_n (pc' := 55) ja_M_named_54 rfl rfl ?_
    refine q_getf (pc' := 58) (v := .int (s 146 17)) ja_M_named_55 rfl (by decide) ⟨rfl, by decide⟩ rfl ?_
    exact q_iret ja_M_named_58 rfl rfl (k3 h1 h2 h3)
  by_cases h4 : a1 = 3
  · refine q_swE (pc' := 59) ja_M_named_1 (by rw [h4]; decide) (by rw [h4]; exact ⟨_, rfl, rfl⟩) ?_
    refine q_aload_n (pc' := 60) ja_M_named_59 rfl rfl ?_
    refine q_getf (pc' := 63) (v := .int (s 146 49)) ja_M_named_60 rfl (by decide) ⟨rfl, by decide⟩ rfl ?_
    exact q_iret ja_M_named_63 rfl rfl (k4 h1 h2 h3 h4)
  by_cases h5 : a1 = 4
  · refine q_swE (pc' := 64) ja_M_named_1 (by rw [h5]; decide) (by rw [h5]; exact ⟨_, rfl, rfl⟩) ?_
    refine q_aload_n (pc' := 65) ja_M_named_64 rfl rfl ?_
    refine q_virt (pc' := 68) (c := 146) (as := []) (r := []) ja_M_named_65 rfl rfl rfl (by decide) ⟨rfl, by decide⟩ ?_
    exact (k5 h1 h2 h3 h4 h5)
  by_cases h6 : a1 = 5
  · refine q_swE (pc' := 69) ja_M_named_1 (by rw [h6]; decide) (by rw [h6]; exact ⟨_, rfl, rfl⟩) ?_
    refine q_aload_n (pc' := 70) ja_M_named_69 rfl rfl ?_
    refine q_getf (pc' := 73) (v := .int (s 146 0)) ja_M_named_70 rfl (by decide) ⟨rfl, by decide⟩ rfl ?_
    exact q_iret ja_M_named_73 rfl rfl (k6 h1 h2 h3 h4 h5 h6)
  by_cases h7 : a1 = 6
  · refine q_swE (pc' := 74) ja_M_named_1 (by rw [h7]; decide) (by rw [h7]; exact ⟨_, rfl, rfl⟩) ?_
    refine q_aload_n (pc' := 75) ja_M_named_74 rfl rfl ?_
    refine q_getf (pc' := 78) (v := .int (s 146 51)) ja_M_named_75 rfl (by decide) ⟨rfl, by decide⟩ rfl ?_
    exact q_iret ja_M_named_78 rfl rfl (k7 h1 h2 h3 h4 h5 h6 h7)
  refine q_swD (pc' := 79) ja_M_named_1 [0, 1, 2, 3, 4, 5, 6] (List.forall_mem_cons.mpr ⟨fun e => h1 (by rw [e]; decide), (List.forall_mem_cons.mpr ⟨fun e => h2 (by rw [e]; decide), (List.forall_mem_cons.mpr ⟨fun e => h3 (by rw [e]; decide), (List.forall_mem_cons.mpr ⟨fun e => h4 (by rw [e]; decide), (List.forall_mem_cons.mpr ⟨fun e => h5 (by rw [e]; decide), (List.forall_mem_cons.mpr ⟨fun e => h6 (by rw [e]; decide), (List.forall_mem_cons.mpr ⟨fun e => h7 (by rw [e]; decide), (List.forall_mem_nil _)⟩)⟩)⟩)⟩)⟩)⟩)⟩) (by decide) rfl ?_
  refine q_aload_n (pc' := 80) ja_M_named_79 rfl rfl ?_
  refine q_getf (pc' := 83) (v := .int (s 146 52)) ja_M_named_80 rfl (by decide) ⟨rfl, by decide⟩ rfl ?_
  exact q_iret ja_M_named_83 rfl rfl (k8 h1 h2 h3 h4 h5 h6 h7)
set_option maxRecDepth 20000 in
theorem t_M_named_68 {G : jv_X} {d : Nat} {B : Option Value → jg_H → Prop} {s : jg_H} (x1 : Int32) (y0 : Int32)
    (k1 : B (some (.int y0)) s) :
    q_W G d jm_M_named B 68 [some (.ref 146), some (.int x1)] [.int y0] s := by
  exact q_iret ja_M_named_68 rfl rfl k1
set_option maxRecDepth 20000 in
theorem t_M_need {G : jv_X} {d : Nat} {B : Option Value → jg_H → Prop} {s : jg_H} (a1 : Int32)
    (k1 : (s 146 44) = (-1) → (s 146 42) = a1 → q_P G (d + 1) 134 [.ref 146] s (fun v t => q_W G (d + 1) jm_M_need B 27 [some (.ref 146), some (.int a1)] (v.toList ++ []) t))
    (k2 : (s 146 44) = (-1) → ¬ (s 146 42) = a1 → ∀ s1 : jg_H, s1 = jg_up s 146 44 (s 146 41) → B none s1)
    (k3 : ¬ (s 146 44) = (-1) → B none s) :
    q_P G (d + 2) 140 [.ref 146, .int a1] s B := by
  refine q_in (M := jm_M_need) rfl (Nat.le_of_ble_eq_true rfl) (ls := [some (.ref 146), some (.int a1)]) rfl ?_
  refine q_aload_n (pc' := 1) ja_M_need_0 rfl rfl ?_
  refine q_virt (pc' := 4) (c := 146) (as := []) (r := []) ja_M_need_1 rfl rfl rfl (by decide) ⟨rfl, by decide⟩ ?_
  refine q_in (M := jm_M_isWrong) rfl (Nat.le_of_ble_eq_true rfl) (ls := [some (.ref 146)]) rfl ?_
  refine q_aload_n (pc' := 1) ja_M_isWrong_0 rfl rfl ?_
  refine q_getf (pc' := 4) (v := .int (s 146 44)) ja_M_isWrong_1 rfl (by decide) ⟨rfl, by decide⟩ rfl ?_
  refine q_iconst (pc' := 5) ja_M_isWrong_4 rfl (-1) (by decide) ?_
  refine q_ic_eq (pc' := 8) ja_M_isWrong_5 rfl ?_ ?_
  · intro h1
    refine q_iconst (pc' := 13) ja_M_isWrong_12 rfl 0 (by decide) ?_
    refine q_iret ja_M_isWrong_13 rfl (by decide) ?_
    show q_W _ _ _ _ 4 [some (.ref 146), some (.int a1)] [.int 0] s
    refine q_if_eq (pc' := 7) ja_M_need_4 rfl (fun _ => ?_) (fun h => absurd ((by decide : (0 : Int32) = 0)) h)
    refine q_aload_n (pc' := 9) ja_M_need_8 rfl rfl ?_
    refine q_getf (pc' := 12) (v := .int (s 146 42)) ja_M_need_9 rfl (by decide) ⟨rfl, by decide⟩ rfl ?_
    refine q_iload_n (pc' := 13) ja_M_need_12 rfl rfl ?_
    refine q_ic_eq (pc' := 16) ja_M_need_13 rfl ?_ ?_
    · intro h2
      refine q_aload_n (pc' := 24) ja_M_need_23 rfl rfl ?_
      refine q_virt (pc' := 27) (c := 146) (as := []) (r := []) ja_M_need_24 rfl rfl rfl (by decide) ⟨rfl, by decide⟩ ?_
      exact (k1 h1 h2)
    · intro h3
      refine q_aload_n (pc' := 17) ja_M_need_16 rfl rfl ?_
      refine q_virt (pc' := 20) (c := 146) (as := []) (r := []) ja_M_need_17 rfl rfl rfl (by decide) ⟨rfl, by decide⟩ ?_
      refine q_in (M := jm_M_cannot) rfl (Nat.le_of_ble_eq_true rfl) (ls := [some (.ref 146)]) rfl ?_
      refine q_aload_n (pc' := 1) ja_M_cannot_0 rfl rfl ?_
      refine q_aload_n (pc' := 2) ja_M_cannot_1 rfl rfl ?_
      refine q_getf (pc' := 5) (v := .int (s 146 44)) ja_M_cannot_2 rfl (by decide) ⟨rfl, by decide⟩ rfl ?_
      refine q_iconst (pc' := 6) ja_M_cannot_5 rfl (-1) (by decide) ?_
      refine q_ic_ne (pc' := 9) ja_M_cannot_6 rfl (fun h => absurd (h1) h) (fun _ => ?_)
      refine q_aload_n (pc' := 10) ja_M_cannot_9 rfl rfl ?_
      refine q_getf (pc' := 13) (v := .int (s 146 41)) ja_M_cannot_10 rfl (by decide) ⟨rfl, by decide⟩ rfl ?_
      refine q_goto ja_M_cannot_13 ?_
      refine q_putf (pc' := 23) ja_M_cannot_20 rfl (by decide) rfl rfl rfl ?_
      intro s1 e1
      refine q_vret ja_M_cannot_23 rfl ?_
      show q_W _ _ _ _ 20 [some (.ref 146), some (.int a1)] [] s1
      refine q_goto ja_M_need_20 ?_
      exact q_vret ja_M_need_27 rfl (k2 h1 h3 s1 e1)
  · intro h4
    refine q_iconst (pc' := 9) ja_M_isWrong_8 rfl 1 (by decide) ?_
    refine q_goto ja_M_isWrong_9 ?_
    refine q_iret ja_M_isWrong_13 rfl (by decide) ?_
    show q_W _ _ _ _ 4 [some (.ref 146), some (.int a1)] [.int 1] s
    refine q_if_eq (pc' := 7) ja_M_need_4 rfl (fun h => absurd h ((by decide : ¬ (1 : Int32) = 0))) (fun _ => ?_)
    exact q_vret ja_M_need_7 rfl (k3 h4)
set_option maxRecDepth 20000 in
theorem t_M_need_27 {G : jv_X} {d : Nat} {B : Option Value → jg_H → Prop} {s : jg_H} (x1 : Int32)
    (k1 : B none s) :
    q_W G (d + 1) jm_M_need B 27 [some (.ref 146), some (.int x1)] [] s := by
  exact q_vret ja_M_need_27 rfl k1
