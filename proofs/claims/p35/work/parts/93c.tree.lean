set_option maxRecDepth 20000 in
theorem t_C_taken {G : jv_X} {d : Nat} {B : Option Value → jg_H → Prop} {s : jg_H} (a1 : Int32) (a2 : Int32)
    (k1 : a2 < 0 → B (some (.int (-2))) s)
    (k2 : ¬ a2 < 0 → ¬ a2 ≤ 6 → B (some (.int (-2))) s)
    (k3 : ¬ a2 < 0 → a2 ≤ 6 → a1 < 0 → B (some (.int (-11))) s)
    (k4 : ¬ a2 < 0 → a2 ≤ 6 → ¬ a1 < 0 → ¬ a1 < (s 60 0) → B (some (.int (-11))) s)
    (k5 : ¬ a2 < 0 → a2 ≤ 6 → ¬ a1 < 0 → a1 < (s 60 0) → ¬ a1 < (s 60 1) → B (some (.int (-11))) s)
    (k6 : ¬ a2 < 0 → a2 ≤ 6 → ¬ a1 < 0 → a1 < (s 60 0) → a1 < (s 60 1) → jv_in a1 8 = true)
    (k7 : ¬ a2 < 0 → a2 ≤ 6 → ¬ a1 < 0 → a1 < (s 60 0) → a1 < (s 60 1) → (s 61 a1.toNatClampNeg) = a2 → jv_in a1 8 = true)
    (k8 : ¬ a2 < 0 → a2 ≤ 6 → ¬ a1 < 0 → a1 < (s 60 0) → a1 < (s 60 1) → (s 61 a1.toNatClampNeg) = a2 → B (some (.int (s 62 a1.toNatClampNeg))) s)
    (k9 : ¬ a2 < 0 → a2 ≤ 6 → ¬ a1 < 0 → a1 < (s 60 0) → a1 < (s 60 1) → ¬ (s 61 a1.toNatClampNeg) = a2 → a2 = 0 → jv_in a1 8 = true)
    (k10 : ¬ a2 < 0 → a2 ≤ 6 → ¬ a1 < 0 → a1 < (s 60 0) → a1 < (s 60 1) → ¬ (s 61 a1.toNatClampNeg) = a2 → a2 = 0 → B (some (.int (s 62 a1.toNatClampNeg))) s)
    (k11 : ¬ a2 < 0 → a2 ≤ 6 → ¬ a1 < 0 → a1 < (s 60 0) → a1 < (s 60 1) → ¬ (s 61 a1.toNatClampNeg) = a2 → ¬ a2 = 0 → ¬ a2 = 1 → B (some (.int (-13))) s)
    (k12 : ¬ a2 < 0 → a2 ≤ 6 → ¬ a1 < 0 → a1 < (s 60 0) → a1 < (s 60 1) → ¬ (s 61 a1.toNatClampNeg) = a2 → ¬ a2 = 0 → a2 = 1 → (s 61 a1.toNatClampNeg) < 1 → B (some (.int (-13))) s)
    (k13 : ¬ a2 < 0 → a2 ≤ 6 → ¬ a1 < 0 → a1 < (s 60 0) → a1 < (s 60 1) → ¬ (s 61 a1.toNatClampNeg) = a2 → ¬ a2 = 0 → a2 = 1 → ¬ (s 61 a1.toNatClampNeg) < 1 → ¬ (s 61 a1.toNatClampNeg) ≤ 3 → B (some (.int (-13))) s)
    (k14 : ¬ a2 < 0 → a2 ≤ 6 → ¬ a1 < 0 → a1 < (s 60 0) → a1 < (s 60 1) → ¬ (s 61 a1.toNatClampNeg) = a2 → ¬ a2 = 0 → a2 = 1 → ¬ (s 61 a1.toNatClampNeg) < 1 → (s 61 a1.toNatClampNeg) ≤ 3 → jv_in a1 8 = true)
    (k15 : ¬ a2 < 0 → a2 ≤ 6 → ¬ a1 < 0 → a1 < (s 60 0) → a1 < (s 60 1) → ¬ (s 61 a1.toNatClampNeg) = a2 → ¬ a2 = 0 → a2 = 1 → ¬ (s 61 a1.toNatClampNeg) < 1 → (s 61 a1.toNatClampNeg) ≤ 3 → B (some (.int (s 62 a1.toNatClampNeg))) s) :
    q_P G (d + 3) 130 [.ref 0, .int a1, .int a2] s B := by
  refine q_in (M := jm_C_taken) rfl (Nat.le_of_ble_eq_true rfl) (ls := [some (.ref 0), some (.int a1), some (.int a2)]) rfl ?_
  refine q_iload_n (pc' := 1) ja_C_taken_0 rfl rfl ?_
  refine q_stat (pc' := 4) (as := [.int a2]) (r := []) ja_C_taken_1 rfl (by decide) rfl rfl ?_
  refine q_in (M := jm_C_isKind) rfl (Nat.le_of_ble_eq_true rfl) (ls := [some (.int a2)]) rfl ?_
  refine q_iload_n (pc' := 1) ja_C_isKind_0 rfl rfl ?_
  refine q_if_lt (pc' := 4) ja_C_isKind_1 rfl ?_ ?_
  · intro h1
    refine q_iconst (pc' := 15) ja_C_isKind_14 rfl 0 (by decide) ?_
    refine q_iret ja_C_isKind_15 rfl (by decide) ?_
    show q_W _ _ _ _ 4 [some (.ref 0), some (.int a1), some (.int a2)] [.int 0] s
    refine q_if_ne (pc' := 7) ja_C_taken_4 rfl (fun h => absurd ((by decide : (0 : Int32) = 0)) h) (fun _ => ?_)
    refine q_bipush (pc' := 9) ja_C_taken_7 rfl (-2) (by decide) ?_
    exact q_iret ja_C_taken_9 rfl rfl (k1 h1)
  · intro h2
    refine q_iload_n (pc' := 5) ja_C_isKind_4 rfl rfl ?_
    refine q_bipush (pc' := 7) ja_C_isKind_5 rfl 6 (by decide) ?_
    refine q_ic_gt (pc' := 10) ja_C_isKind_7 rfl ?_ ?_
    · intro h3
      refine q_iconst (pc' := 15) ja_C_isKind_14 rfl 0 (by decide) ?_
      refine q_iret ja_C_isKind_15 rfl (by decide) ?_
      show q_W _ _ _ _ 4 [some (.ref 0), some (.int a1), some (.int a2)] [.int 0] s
      refine q_if_ne (pc' := 7) ja_C_taken_4 rfl (fun h => absurd ((by decide : (0 : Int32) = 0)) h) (fun _ => ?_)
      refine q_bipush (pc' := 9) ja_C_taken_7 rfl (-2) (by decide) ?_
      exact q_iret ja_C_taken_9 rfl rfl (k2 h2 h3)
    · intro h4
      refine q_iconst (pc' := 11) ja_C_isKind_10 rfl 1 (by decide) ?_
      refine q_goto ja_C_isKind_11 ?_
      refine q_iret ja_C_isKind_15 rfl (by decide) ?_
      show q_W _ _ _ _ 4 [some (.ref 0), some (.int a1), some (.int a2)] [.int 1] s
      refine q_if_ne (pc' := 7) ja_C_taken_4 rfl (fun _ => ?_) (fun h => absurd h ((by decide : ¬ (1 : Int32) = 0)))
      refine q_aload_n (pc' := 11) ja_C_taken_10 rfl rfl ?_
      refine q_getf (pc' := 14) (v := .ref 60) ja_C_taken_11 rfl (by decide) ⟨rfl, by decide⟩ rfl ?_
      refine q_iload_n (pc' := 15) ja_C_taken_14 rfl rfl ?_
      refine q_virt (pc' := 18) (c := 60) (as := [.int a1]) (r := []) ja_C_taken_15 rfl rfl rfl (by decide) ⟨rfl, by decide⟩ ?_
      refine q_in (M := jm_Motions_has) rfl (Nat.le_of_ble_eq_true rfl) (ls := [some (.ref 60), some (.int a1)]) rfl ?_
      refine q_iload_n (pc' := 1) ja_Motions_has_0 rfl rfl ?_
      refine q_if_lt (pc' := 4) ja_Motions_has_1 rfl ?_ ?_
      · intro h5
        refine q_iconst (pc' := 25) ja_Motions_has_24 rfl 0 (by decide) ?_
        refine q_iret ja_Motions_has_25 rfl (by decide) ?_
        show q_W _ _ _ _ 18 [some (.ref 0), some (.int a1), some (.int a2)] [.int 0] s
        refine q_if_ne (pc' := 21) ja_C_taken_18 rfl (fun h => absurd ((by decide : (0 : Int32) = 0)) h) (fun _ => ?_)
        refine q_bipush (pc' := 23) ja_C_taken_21 rfl (-11) (by decide) ?_
        exact q_iret ja_C_taken_23 rfl rfl (k3 h2 h4 h5)
      · intro h6
        refine q_iload_n (pc' := 5) ja_Motions_has_4 rfl rfl ?_
        refine q_aload_n (pc' := 6) ja_Motions_has_5 rfl rfl ?_
        refine q_getf (pc' := 9) (v := .int (s 60 0)) ja_Motions_has_6 rfl (by decide) ⟨rfl, by decide⟩ rfl ?_
        refine q_ic_ge (pc' := 12) ja_Motions_has_9 rfl ?_ ?_
        · intro h7
          refine q_iconst (pc' := 25) ja_Motions_has_24 rfl 0 (by decide) ?_
          refine q_iret ja_Motions_has_25 rfl (by decide) ?_
          show q_W _ _ _ _ 18 [some (.ref 0), some (.int a1), some (.int a2)] [.int 0] s
          refine q_if_ne (pc' := 21) ja_C_taken_18 rfl (fun h => absurd ((by decide : (0 : Int32) = 0)) h) (fun _ => ?_)
          refine q_bipush (pc' := 23) ja_C_taken_21 rfl (-11) (by decide) ?_
          exact q_iret ja_C_taken_23 rfl rfl (k4 h2 h4 h6 h7)
        · intro h8
          refine q_iload_n (pc' := 13) ja_Motions_has_12 rfl rfl ?_
          refine q_aload_n (pc' := 14) ja_Motions_has_13 rfl rfl ?_
          refine q_getf (pc' := 17) (v := .int (s 60 1)) ja_Motions_has_14 rfl (by decide) ⟨rfl, by decide⟩ rfl ?_
          refine q_ic_ge (pc' := 20) ja_Motions_has_17 rfl ?_ ?_
          · intro h9
            refine q_iconst (pc' := 25) ja_Motions_has_24 rfl 0 (by decide) ?_
            refine q_iret ja_Motions_has_25 rfl (by decide) ?_
            show q_W _ _ _ _ 18 [some (.ref 0), some (.int a1), some (.int a2)] [.int 0] s
            refine q_if_ne (pc' := 21) ja_C_taken_18 rfl (fun h => absurd ((by decide : (0 : Int32) = 0)) h) (fun _ => ?_)
            refine q_bipush (pc' := 23) ja_C_taken_21 rfl (-11) (by decide) ?_
            exact q_iret ja_C_taken_23 rfl rfl (k5 h2 h4 h6 h8 h9)
          · intro h10
            refine q_iconst (pc' := 21) ja_Motions_has_20 rfl 1 (by decide) ?_
            refine q_goto ja_Motions_has_21 ?_
            refine q_iret ja_Motions_has_25 rfl (by decide) ?_
            show q_W _ _ _ _ 18 [some (.ref 0), some (.int a1), some (.int a2)] [.int 1] s
            refine q_if_ne (pc' := 21) ja_C_taken_18 rfl (fun _ => ?_) (fun h => absurd h ((by decide : ¬ (1 : Int32) = 0)))
            refine q_aload_n (pc' := 25) ja_C_taken_24 rfl rfl ?_
            refine q_getf (pc' := 28) (v := .ref 60) ja_C_taken_25 rfl (by decide) ⟨rfl, by decide⟩ rfl ?_
            refine q_getf (pc' := 31) (v := .ref 61) ja_C_taken_28 rfl (by decide) ⟨rfl, by decide⟩ rfl ?_
            refine q_iload_n (pc' := 32) ja_C_taken_31 rfl rfl ?_
            refine q_iald (pc' := 33) (v := .int (s 61 a1.toNatClampNeg)) ja_C_taken_32 rfl (by decide) (l := 8) rfl (k6 h2 h4 h6 h8 h10) rfl ?_
            refine q_iload_n (pc' := 34) ja_C_taken_33 rfl rfl ?_
            refine q_stat (pc' := 37) (as := [.int (s 61 a1.toNatClampNeg), .int a2]) (r := []) ja_C_taken_34 rfl (by decide) rfl rfl ?_
            refine q_in (M := jm_C_isUnder) rfl (Nat.le_of_ble_eq_true rfl) (ls := [some (.int (s 61 a1.toNatClampNeg)), some (.int a2)]) rfl ?_
            refine q_iload_n (pc' := 1) ja_C_isUnder_0 rfl rfl ?_
            refine q_iload_n (pc' := 2) ja_C_isUnder_1 rfl rfl ?_
            refine q_ic_eq (pc' := 5) ja_C_isUnder_2 rfl ?_ ?_
            · intro h11
              refine q_iconst (pc' := 22) ja_C_isUnder_21 rfl 1 (by decide) ?_
              refine q_goto ja_C_isUnder_22 ?_
              refine q_iret ja_C_isUnder_26 rfl (by decide) ?_
              show q_W _ _ _ _ 37 [some (.ref 0), some (.int a1), some (.int a2)] [.int 1] s
              refine q_if_eq (pc' := 40) ja_C_taken_37 rfl (fun h => absurd h ((by decide : ¬ (1 : Int32) = 0))) (fun _ => ?_)
              refine q_aload_n (pc' := 41) ja_C_taken_40 rfl rfl ?_
              refine q_getf (pc' := 44) (v := .ref 60) ja_C_taken_41 rfl (by decide) ⟨rfl, by decide⟩ rfl ?_
              refine q_getf (pc' := 47) (v := .ref 62) ja_C_taken_44 rfl (by decide) ⟨rfl, by decide⟩ rfl ?_
              refine q_iload_n (pc' := 48) ja_C_taken_47 rfl rfl ?_
              refine q_iald (pc' := 49) (v := .int (s 62 a1.toNatClampNeg)) ja_C_taken_48 rfl (by decide) (l := 8) rfl (k7 h2 h4 h6 h8 h10 h11) rfl ?_
              refine q_goto ja_C_taken_49 ?_
              exact q_iret ja_C_taken_54 rfl rfl (k8 h2 h4 h6 h8 h10 h11)
            · intro h12
              refine q_iload_n (pc' := 6) ja_C_isUnder_5 rfl rfl ?_
              refine q_if_eq (pc' := 9) ja_C_isUnder_6 rfl ?_ ?_
              · intro h13
                refine q_iconst (pc' := 22) ja_C_isUnder_21 rfl 1 (by decide) ?_
                refine q_goto ja_C_isUnder_22 ?_
                refine q_iret ja_C_isUnder_26 rfl (by decide) ?_
                show q_W _ _ _ _ 37 [some (.ref 0), some (.int a1), some (.int a2)] [.int 1] s
                refine q_if_eq (pc' := 40) ja_C_taken_37 rfl (fun h => absurd h ((by decide : ¬ (1 : Int32) = 0))) (fun _ => ?_)
                refine q_aload_n (pc' := 41) ja_C_taken_40 rfl rfl ?_
                refine q_getf (pc' := 44) (v := .ref 60) ja_C_taken_41 rfl (by decide) ⟨rfl, by decide⟩ rfl ?_
                refine q_getf (pc' := 47) (v := .ref 62) ja_C_taken_44 rfl (by decide) ⟨rfl, by decide⟩ rfl ?_
                refine q_iload_n (pc' := 48) ja_C_taken_47 rfl rfl ?_
                refine q_iald (pc' := 49) (v := .int (s 62 a1.toNatClampNeg)) ja_C_taken_48 rfl (by decide) (l := 8) rfl (k9 h2 h4 h6 h8 h10 h12 h13) rfl ?_
                refine q_goto ja_C_taken_49 ?_
                exact q_iret ja_C_taken_54 rfl rfl (k10 h2 h4 h6 h8 h10 h12 h13)
              · intro h14
                refine q_iload_n (pc' := 10) ja_C_isUnder_9 rfl rfl ?_
                refine q_iconst (pc' := 11) ja_C_isUnder_10 rfl 1 (by decide) ?_
                refine q_ic_ne (pc' := 14) ja_C_isUnder_11 rfl ?_ ?_
                · intro h15
                  refine q_iconst (pc' := 26) ja_C_isUnder_25 rfl 0 (by decide) ?_
                  refine q_iret ja_C_isUnder_26 rfl (by decide) ?_
                  show q_W _ _ _ _ 37 [some (.ref 0), some (.int a1), some (.int a2)] [.int 0] s
                  refine q_if_eq (pc' := 40) ja_C_taken_37 rfl (fun _ => ?_) (fun h => absurd ((by decide : (0 : Int32) = 0)) h)
                  refine q_bipush (pc' := 54) ja_C_taken_52 rfl (-13) (by decide) ?_
                  exact q_iret ja_C_taken_54 rfl rfl (k11 h2 h4 h6 h8 h10 h12 h14 h15)
                · intro h16
                  refine q_iload_n (pc' := 15) ja_C_isUnder_14 rfl rfl ?_
                  refine q_stat (pc' := 18) (as := [.int (s 61 a1.toNatClampNeg)]) (r := []) ja_C_isUnder_15 rfl (by decide) rfl rfl ?_
                  refine q_in (M := jm_C_isAmendment) rfl (Nat.le_of_ble_eq_true rfl) (ls := [some (.int (s 61 a1.toNatClampNeg))]) rfl ?_
                  refine q_iload_n (pc' := 1) ja_C_isAmendment_0 rfl rfl ?_
                  refine q_iconst (pc' := 2) ja_C_isAmendment_1 rfl 1 (by decide) ?_
                  refine q_ic_lt (pc' := 5) ja_C_isAmendment_2 rfl ?_ ?_
                  · intro h17
                    refine q_iconst (pc' := 15) ja_C_isAmendment_14 rfl 0 (by decide) ?_
                    refine q_iret ja_C_isAmendment_15 rfl (by decide) ?_
                    show q_W _ _ _ _ 18 [some (.int (s 61 a1.toNatClampNeg)), some (.int a2)] [.int 0] s
                    refine q_if_eq (pc' := 21) ja_C_isUnder_18 rfl (fun _ => ?_) (fun h => absurd ((by decide : (0 : Int32) = 0)) h)
                    refine q_iconst (pc' := 26) ja_C_isUnder_25 rfl 0 (by decide) ?_
                    refine q_iret ja_C_isUnder_26 rfl (by decide) ?_
                    show q_W _ _ _ _ 37 [some (.ref 0), some (.int a1), some (.int a2)] [.int 0] s
                    refine q_if_eq (pc' := 40) ja_C_taken_37 rfl (fun _ => ?_) (fun h => absurd ((by decide : (0 : Int32) = 0)) h)
                    refine q_bipush (pc' := 54) ja_C_taken_52 rfl (-13) (by decide) ?_
                    exact q_iret ja_C_taken_54 rfl rfl (k12 h2 h4 h6 h8 h10 h12 h14 h16 h17)
                  · intro h18
                    refine q_iload_n (pc' := 6) ja_C_isAmendment_5 rfl rfl ?_
                    refine q_iconst (pc' := 7) ja_C_isAmendment_6 rfl 3 (by decide) ?_
                    refine q_ic_gt (pc' := 10) ja_C_isAmendment_7 rfl ?_ ?_
                    · intro h19
                      refine q_iconst (pc' := 15) ja_C_isAmendment_14 rfl 0 (by decide) ?_
                      refine q_iret ja_C_isAmendment_15 rfl (by decide) ?_
                      show q_W _ _ _ _ 18 [some (.int (s 61 a1.toNatClampNeg)), some (.int a2)] [.int 0] s
                      refine q_if_eq (pc' := 21) ja_C_isUnder_18 rfl (fun _ => ?_) (fun h => absurd ((by decide : (0 : Int32) = 0)) h)
                      refine q_iconst (pc' := 26) ja_C_isUnder_25 rfl 0 (by decide) ?_
                      refine q_iret ja_C_isUnder_26 rfl (by decide) ?_
                      show q_W _ _ _ _ 37 [some (.ref 0), some (.int a1), some (.int a2)] [.int 0] s
                      refine q_if_eq (pc' := 40) ja_C_taken_37 rfl (fun _ => ?_) (fun h => absurd ((by decide : (0 : Int32) = 0)) h)
                      refine q_bipush (pc' := 54) ja_C_taken_52 rfl (-13) (by decide) ?_
                      exact q_iret ja_C_taken_54 rfl rfl (k13 h2 h4 h6 h8 h10 h12 h14 h16 h18 h19)
                    · intro h20
                      refine q_iconst (pc' := 11) ja_C_isAmendment_10 rfl 1 (by decide) ?_
                      refine q_goto ja_C_isAmendment_11 ?_
                      refine q_iret ja_C_isAmendment_15 rfl (by decide) ?_
                      show q_W _ _ _ _ 18 [some (.int (s 61 a1.toNatClampNeg)), some (.int a2)] [.int 1] s
                      refine q_if_eq (pc' := 21) ja_C_isUnder_18 rfl (fun h => absurd h ((by decide : ¬ (1 : Int32) = 0))) (fun _ => ?_)
                      refine q_iconst (pc' := 22) ja_C_isUnder_21 rfl 1 (by decide) ?_
                      refine q_goto ja_C_isUnder_22 ?_
                      refine q_iret ja_C_isUnder_26 rfl (by decide) ?_
                      show q_W _ _ _ _ 37 [some (.ref 0), some (.int a1), some (.int a2)] [.int 1] s
                      refine q_if_eq (pc' := 40) ja_C_taken_37 rfl (fun h => absurd h ((by decide : ¬ (1 : Int32) = 0))) (fun _ => ?_)
                      refine q_aload_n (pc' := 41) ja_C_taken_40 rfl rfl ?_
                      refine q_getf (pc' := 44) (v := .ref 60) ja_C_taken_41 rfl (by decide) ⟨rfl, by decide⟩ rfl ?_
                      refine q_getf (pc' := 47) (v := .ref 62) ja_C_taken_44 rfl (by decide) ⟨rfl, by decide⟩ rfl ?_
                      refine q_iload_n (pc' := 48) ja_C_taken_47 rfl rfl ?_
                      refine q_iald (pc' := 49) (v := .int (s 62 a1.toNatClampNeg)) ja_C_taken_48 rfl (by decide) (l := 8) rfl (k14 h2 h4 h6 h8 h10 h12 h14 h16 h18 h20) rfl ?_
                      refine q_goto ja_C_taken_49 ?_
                      exact q_iret ja_C_taken_54 rfl rfl (k15 h2 h4 h6 h8 h10 h12 h14 h16 h18 h20)
set_option maxRecDepth 20000 in
theorem t_C_takesWord {G : jv_X} {d : Nat} {B : Option Value → jg_H → Prop} {s : jg_H} (a1 : Int32)
    (k1 : a1 = 2 → B (some (.int 1)) s)
    (k2 : ¬ a1 = 2 → ¬ a1 = 3 → B (some (.int 0)) s)
    (k3 : ¬ a1 = 2 → a1 = 3 → B (some (.int 1)) s) :
    q_P G (d + 1) 82 [.int a1] s B := by
  refine q_in (M := jm_C_takesWord) rfl (Nat.le_of_ble_eq_true rfl) (ls := [some (.int a1)]) rfl ?_
  refine q_iload_n (pc' := 1) ja_C_takesWord_0 rfl rfl ?_
  refine q_iconst (pc' := 2) ja_C_takesWord_1 rfl 2 (by decide) ?_
  refine q_ic_eq (pc' := 5) ja_C_takesWord_2 rfl ?_ ?_
  · intro h1
    refine q_iconst (pc' := 11) ja_C_takesWord_10 rfl 1 (by decide) ?_
    refine q_goto ja_C_takesWord_11 ?_
    exact q_iret ja_C_takesWord_15 rfl (by decide) (k1 h1)
  · intro h2
    refine q_iload_n (pc' := 6) ja_C_takesWord_5 rfl rfl ?_
    refine q_iconst (pc' := 7) ja_C_takesWord_6 rfl 3 (by decide) ?_
    refine q_ic_ne (pc' := 10) ja_C_takesWord_7 rfl ?_ ?_
    · intro h3
      refine q_iconst (pc' := 15) ja_C_takesWord_14 rfl 0 (by decide) ?_
      exact q_iret ja_C_takesWord_15 rfl (by decide) (k2 h2 h3)
    · intro h4
      refine q_iconst (pc' := 11) ja_C_takesWord_10 rfl 1 (by decide) ?_
      refine q_goto ja_C_takesWord_11 ?_
      exact q_iret ja_C_takesWord_15 rfl (by decide) (k3 h2 h4)
set_option maxRecDepth 20000 in
theorem t_C_tally {G : jv_X} {d : Nat} {B : Option Value → jg_H → Prop} {s : jg_H} {c1 : Nat} (hc1 : f_0 c1) {c2 : Nat} (hc2 : f_8 c2) {c3 Lc3 : Nat} (hc3 : f_6 c3 Lc3) (a4 : Int32) (a5 : Int32)
    (k1 : ∀ s1 : jg_H, s1 = jg_up s c1 0 0 → ∀ s2 : jg_H, s2 = jg_up s1 c1 1 0 → a4 < 0 → ∀ s3 : jg_H, s3 = jg_up s2 c1 2 (-1) → q_W G (d + 1) jm_C_tally B 37 [some (.ref 0), some (.ref c1), some (.ref c2), some (.ref c3), some (.int a4), some (.int a5), some (.int 0), none] [] s3)
    (k2 : ∀ s1 : jg_H, s1 = jg_up s c1 0 0 → ∀ s2 : jg_H, s2 = jg_up s1 c1 1 0 → ¬ a4 < 0 → ¬ a4 < (s2 c3 0) → ∀ s4 : jg_H, s4 = jg_up s2 c1 2 (-1) → q_W G (d + 1) jm_C_tally B 37 [some (.ref 0), some (.ref c1), some (.ref c2), some (.ref c3), some (.int a4), some (.int a5), some (.int 0), none] [] s4)
    (k3 : ∀ s1 : jg_H, s1 = jg_up s c1 0 0 → ∀ s2 : jg_H, s2 = jg_up s1 c1 1 0 → ¬ a4 < 0 → a4 < (s2 c3 0) → ¬ a4 < (s2 c3 1) → ∀ s5 : jg_H, s5 = jg_up s2 c1 2 (-1) → q_W G (d + 1) jm_C_tally B 37 [some (.ref 0), some (.ref c1), some (.ref c2), some (.ref c3), some (.int a4), some (.int a5), some (.int 0), none] [] s5)
    (k4 : ∀ s1 : jg_H, s1 = jg_up s c1 0 0 → ∀ s2 : jg_H, s2 = jg_up s1 c1 1 0 → ¬ a4 < 0 → a4 < (s2 c3 0) → a4 < (s2 c3 1) → jv_in a4 Lc3 = true)
    (k5 : ∀ s1 : jg_H, s1 = jg_up s c1 0 0 → ∀ s2 : jg_H, s2 = jg_up s1 c1 1 0 → ¬ a4 < 0 → a4 < (s2 c3 0) → a4 < (s2 c3 1) → ∀ s6 : jg_H, s6 = jg_up s2 c1 2 (s2 (c3 + 1) a4.toNatClampNeg) → q_W G (d + 1) jm_C_tally B 37 [some (.ref 0), some (.ref c1), some (.ref c2), some (.ref c3), some (.int a4), some (.int a5), some (.int 0), none] [] s6) :
    q_P G (d + 2) 93 [.ref 0, .ref c1, .ref c2, .ref c3, .int a4, .int a5] s B := by
  refine q_in (M := jm_C_tally) rfl (Nat.le_of_ble_eq_true rfl) (ls := [some (.ref 0), some (.ref c1), some (.ref c2), some (.ref c3), some (.int a4), some (.int a5), none, none]) rfl ?_
  refine q_aload_n (pc' := 1) ja_C_tally_0 rfl rfl ?_
  refine q_iconst (pc' := 2) ja_C_tally_1 rfl 0 (by decide) ?_
  refine q_putf (pc' := 5) ja_C_tally_2 rfl (f_0_c hc1) (by rw [f_0_k hc1]) rfl (by rw [f_0_k hc1]; rfl) ?_
  intro s1 e1
  refine q_aload_n (pc' := 6) ja_C_tally_5 rfl rfl ?_
  refine q_iconst (pc' := 7) ja_C_tally_6 rfl 0 (by decide) ?_
  refine q_putf (pc' := 10) ja_C_tally_7 rfl (f_0_c hc1) (by rw [f_0_k hc1]) rfl (by rw [f_0_k hc1]; rfl) ?_
  intro s2 e2
  refine q_aload_n (pc' := 11) ja_C_tally_10 rfl rfl ?_
  refine q_aload_n (pc' := 12) ja_C_tally_11 rfl rfl ?_
  refine q_iload (pc' := 14) ja_C_tally_12 rfl rfl ?_
  refine q_virt (pc' := 17) (c := c3) (as := [.int a4]) (r := [.ref c1]) ja_C_tally_14 rfl rfl rfl (f_6_c hc3) ⟨by rw [f_6_k hc3], by decide⟩ ?_
  refine q_in (M := jm_Motions_has) rfl (Nat.le_of_ble_eq_true rfl) (ls := [some (.ref c3), some (.int a4)]) rfl ?_
  refine q_iload_n (pc' := 1) ja_Motions_has_0 rfl rfl ?_
  refine q_if_lt (pc' := 4) ja_Motions_has_1 rfl ?_ ?_
  · intro h1
    refine q_iconst (pc' := 25) ja_Motions_has_24 rfl 0 (by decide) ?_
    refine q_iret ja_Motions_has_25 rfl (by decide) ?_
    show q_W _ _ _ _ 17 [some (.ref 0), some (.ref c1), some (.ref c2), some (.ref c3), some (.int a4), some (.int a5), none, none] [.int 0, .ref c1] s2
    refine q_if_eq (pc' := 20) ja_C_tally_17 rfl (fun _ => ?_) (fun h => absurd ((by decide : (0 : Int32) = 0)) h)
    refine q_iconst (pc' := 31) ja_C_tally_30 rfl (-1) (by decide) ?_
    refine q_putf (pc' := 34) ja_C_tally_31 rfl (f_0_c hc1) (by rw [f_0_k hc1]) rfl (by rw [f_0_k hc1]; rfl) ?_
    intro s3 e3
    refine q_iconst (pc' := 35) ja_C_tally_34 rfl 0 (by decide) ?_
    refine q_istore (pc' := 37) (ls' := [some (.ref 0), some (.ref c1), some (.ref c2), some (.ref c3), some (.int a4), some (.int a5), some (.int 0), none]) ja_C_tally_35 rfl ⟨Nat.le_of_ble_eq_true rfl, rfl⟩ rfl ?_
    exact (k1 s1 e1 s2 e2 h1 s3 e3)
  · intro h2
    refine q_iload_n (pc' := 5) ja_Motions_has_4 rfl rfl ?_
    refine q_aload_n (pc' := 6) ja_Motions_has_5 rfl rfl ?_
    refine q_getf (pc' := 9) (v := .int (s2 c3 0)) ja_Motions_has_6 rfl (f_6_c hc3) ⟨by rw [f_6_k hc3], by decide⟩ (f_i (f_6_k hc3) rfl) ?_
    refine q_ic_ge (pc' := 12) ja_Motions_has_9 rfl ?_ ?_
    · intro h3
      refine q_iconst (pc' := 25) ja_Motions_has_24 rfl 0 (by decide) ?_
      refine q_iret ja_Motions_has_25 rfl (by decide) ?_
      show q_W _ _ _ _ 17 [some (.ref 0), some (.ref c1), some (.ref c2), some (.ref c3), some (.int a4), some (.int a5), none, none] [.int 0, .ref c1] s2
      refine q_if_eq (pc' := 20) ja_C_tally_17 rfl (fun _ => ?_) (fun h => absurd ((by decide : (0 : Int32) = 0)) h)
      refine q_iconst (pc' := 31) ja_C_tally_30 rfl (-1) (by decide) ?_
      refine q_putf (pc' := 34) ja_C_tally_31 rfl (f_0_c hc1) (by rw [f_0_k hc1]) rfl (by rw [f_0_k hc1]; rfl) ?_
      intro s4 e4
      refine q_iconst (pc' := 35) ja_C_tally_34 rfl 0 (by decide) ?_
      refine q_istore (pc' := 37) (ls' := [some (.ref 0), some (.ref c1), some (.ref c2), some (.ref c3), some (.int a4), some (.int a5), some (.int 0), none]) ja_C_tally_35 rfl ⟨Nat.le_of_ble_eq_true rfl, rfl⟩ rfl ?_
      exact (k2 s1 e1 s2 e2 h2 h3 s4 e4)
    · intro h4
      refine q_iload_n (pc' := 13) ja_Motions_has_12 rfl rfl ?_
      refine q_aload_n (pc' := 14) ja_Motions_has_13 rfl rfl ?_
      refine q_getf (pc' := 17) (v := .int (s2 c3 1)) ja_Motions_has_14 rfl (f_6_c hc3) ⟨by rw [f_6_k hc3], by decide⟩ (f_i (f_6_k hc3) rfl) ?_
      refine q_ic_ge (pc' := 20) ja_Motions_has_17 rfl ?_ ?_
      · intro h5
        refine q_iconst (pc' := 25) ja_Motions_has_24 rfl 0 (by decide) ?_
        refine q_iret ja_Motions_has_25 rfl (by decide) ?_
        show q_W _ _ _ _ 17 [some (.ref 0), some (.ref c1), some (.ref c2), some (.ref c3), some (.int a4), some (.int a5), none, none] [.int 0, .ref c1] s2
        refine q_if_eq (pc' := 20) ja_C_tally_17 rfl (fun _ => ?_) (fun h => absurd ((by decide : (0 : Int32) = 0)) h)
        refine q_iconst (pc' := 31) ja_C_tally_30 rfl (-1) (by decide) ?_
        refine q_putf (pc' := 34) ja_C_tally_31 rfl (f_0_c hc1) (by rw [f_0_k hc1]) rfl (by rw [f_0_k hc1]; rfl) ?_
        intro s5 e5
        refine q_iconst (pc' := 35) ja_C_tally_34 rfl 0 (by decide) ?_
        refine q_istore (pc' := 37) (ls' := [some (.ref 0), some (.ref c1), some (.ref c2), some (.ref c3), some (.int a4), some (.int a5), some (.int 0), none]) ja_C_tally_35 rfl ⟨Nat.le_of_ble_eq_true rfl, rfl⟩ rfl ?_
        exact (k3 s1 e1 s2 e2 h2 h4 h5 s5 e5)
      · intro h6
        refine q_iconst (pc' := 21) ja_Motions_has_20 rfl 1 (by decide) ?_
        refine q_goto ja_Motions_has_21 ?_
        refine q_iret ja_Motions_has_25 rfl (by decide) ?_
        show q_W _ _ _ _ 17 [some (.ref 0), some (.ref c1), some (.ref c2), some (.ref c3), some (.int a4), some (.int a5), none, none] [.int 1, .ref c1] s2
        refine q_if_eq (pc' := 20) ja_C_tally_17 rfl (fun h => absurd h ((by decide : ¬ (1 : Int32) = 0))) (fun _ => ?_)
        refine q_aload_n (pc' := 21) ja_C_tally_20 rfl rfl ?_
        refine q_getf (pc' := 24) (v := .ref (c3 + 1)) ja_C_tally_21 rfl (f_6_c hc3) ⟨by rw [f_6_k hc3], by decide⟩ (f_6_g2 hc3) ?_
        refine q_iload (pc' := 26) ja_C_tally_24 rfl rfl ?_
        refine q_iald (pc' := 27) (v := .int (s2 (c3 + 1) a4.toNatClampNeg)) ja_C_tally_26 rfl (f_a_c (f_6_s2 hc3)) (l := Lc3) (f_a_k (f_6_s2 hc3)) (k4 s1 e1 s2 e2 h2 h4 h6) (f_i (f_a_k (f_6_s2 hc3)) rfl) ?_
        refine q_goto ja_C_tally_27 ?_
        refine q_putf (pc' := 34) ja_C_tally_31 rfl (f_0_c hc1) (by rw [f_0_k hc1]) rfl (by rw [f_0_k hc1]; rfl) ?_
        intro s6 e6
        refine q_iconst (pc' := 35) ja_C_tally_34 rfl 0 (by decide) ?_
        refine q_istore (pc' := 37) (ls' := [some (.ref 0), some (.ref c1), some (.ref c2), some (.ref c3), some (.int a4), some (.int a5), some (.int 0), none]) ja_C_tally_35 rfl ⟨Nat.le_of_ble_eq_true rfl, rfl⟩ rfl ?_
        exact (k5 s1 e1 s2 e2 h2 h4 h6 s6 e6)
set_option maxRecDepth 20000 in
theorem t_C_tally_37 {G : jv_X} {d : Nat} {B : Option Value → jg_H → Prop} {s : jg_H} {x1 : Nat} (hx1 : f_0 x1) {x2 : Nat} (hx2 : f_8 x2) {x3 Lx3 : Nat} (hx3 : f_6 x3 Lx3) (x4 : Int32) (x5 : Int32) (x6 : Int32) {o7 : Option Value} (ho7 : f_n o7 = true)
    (k1 : ¬ x6 < (s 0 1) → B none s)
    (k2 : x6 < (s 0 1) → ¬ x6 < 15 → B none s)
    (k3 : x6 < (s 0 1) → x6 < 15 → jv_in x6 15 = true)
    (k4 : x6 < (s 0 1) → x6 < 15 → q_P G (d + 1) 94 [.ref 0, .ref (2 + 2 * x6.toNatClampNeg), .ref x2, .ref x3, .int x4, .int x5] s (fun v t => q_W G (d + 1) jm_C_tally B 73 [some (.ref 0), some (.ref x1), some (.ref x2), some (.ref x3), some (.int x4), some (.int x5), some (.int x6), o7] (v.toList ++ []) t)) :
    q_W G (d + 1) jm_C_tally B 37 [some (.ref 0), some (.ref x1), some (.ref x2), some (.ref x3), some (.int x4), some (.int x5), some (.int x6), o7] [] s := by
  refine q_iload (pc' := 39) ja_C_tally_37 rfl rfl ?_
  refine q_aload_n (pc' := 40) ja_C_tally_39 rfl rfl ?_
  refine q_getf (pc' := 43) (v := .int (s 0 1)) ja_C_tally_40 rfl (by decide) ⟨rfl, by decide⟩ rfl ?_
  refine q_ic_ge (pc' := 46) ja_C_tally_43 rfl ?_ ?_
  · intro h1
    exact q_vret ja_C_tally_116 rfl (k1 h1)
  · intro h2
    refine q_iload (pc' := 48) ja_C_tally_46 rfl rfl ?_
    refine q_aload_n (pc' := 49) ja_C_tally_48 rfl rfl ?_
    refine q_getf (pc' := 52) (v := .ref 1) ja_C_tally_49 rfl (by decide) ⟨rfl, by decide⟩ rfl ?_
    refine q_alen (pc' := 53) ja_C_tally_52 rfl (by decide) (kd := 16) (l := 15) rfl (by decide) (v := 15) (by decide) ?_
    refine q_ic_ge (pc' := 56) ja_C_tally_53 rfl ?_ ?_
    · intro h3
      exact q_vret ja_C_tally_116 rfl (k2 h2 h3)
    · intro h4
      refine q_aload_n (pc' := 57) ja_C_tally_56 rfl rfl ?_
      refine q_aload_n (pc' := 58) ja_C_tally_57 rfl rfl ?_
      refine q_getf (pc' := 61) (v := .ref 1) ja_C_tally_58 rfl (by decide) ⟨rfl, by decide⟩ rfl ?_
      refine q_iload (pc' := 63) ja_C_tally_61 rfl rfl ?_
      refine q_aald (pc' := 64) (v := .ref (2 + 2 * x6.toNatClampNeg)) ja_C_tally_63 rfl (by decide) (kd := 16) (l := 15) rfl (by decide) (k3 h2 h4) (f_A1 (f_in (k3 h2 h4))) ?_
      refine q_aload_n (pc' := 65) ja_C_tally_64 rfl rfl ?_
      refine q_aload_n (pc' := 66) ja_C_tally_65 rfl rfl ?_
      refine q_iload (pc' := 68) ja_C_tally_66 rfl rfl ?_
      refine q_iload (pc' := 70) ja_C_tally_68 rfl rfl ?_
      refine q_virt (pc' := 73) (c := 0) (as := [.ref (2 + 2 * x6.toNatClampNeg), .ref x2, .ref x3, .int x4, .int x5]) (r := []) ja_C_tally_70 rfl rfl rfl (by decide) ⟨rfl, by decide⟩ ?_
      exact (k4 h2 h4)
set_option maxRecDepth 20000 in
theorem t_C_tally_73 {G : jv_X} {d : Nat} {B : Option Value → jg_H → Prop} {s : jg_H} {x1 : Nat} (hx1 : f_0 x1) {x2 : Nat} (hx2 : f_8 x2) {x3 Lx3 : Nat} (hx3 : f_6 x3 Lx3) (x4 : Int32) (x5 : Int32) (x6 : Int32) {o7 : Option Value} (ho7 : f_n o7 = true) (y0 : Int32)
    (k1 : ¬ y0 = 1 → ¬ y0 = 2 → q_W G (d + 1) jm_C_tally B 37 [some (.ref 0), some (.ref x1), some (.ref x2), some (.ref x3), some (.int x4), some (.int x5), some (.int (x6 + 1)), some (.int y0)] [] s)
    (k2 : ¬ y0 = 1 → y0 = 2 → ∀ s1 : jg_H, s1 = jg_up s x1 1 ((s x1 1) + 1) → q_W G (d + 1) jm_C_tally B 37 [some (.ref 0), some (.ref x1), some (.ref x2), some (.ref x3), some (.int x4), some (.int x5), some (.int (x6 + 1)), some (.int y0)] [] s1)
    (k3 : y0 = 1 → ∀ s2 : jg_H, s2 = jg_up s x1 0 ((s x1 0) + 1) → q_W G (d + 1) jm_C_tally B 37 [some (.ref 0), some (.ref x1), some (.ref x2), some (.ref x3), some (.int x4), some (.int x5), some (.int (x6 + 1)), some (.int y0)] [] s2) :
    q_W G (d + 1) jm_C_tally B 73 [some (.ref 0), some (.ref x1), some (.ref x2), some (.ref x3), some (.int x4), some (.int x5), some (.int x6), o7] [.int y0] s := by
  refine q_istore (pc' := 75) (ls' := [some (.ref 0), some (.ref x1), some (.ref x2), some (.ref x3), some (.int x4), some (.int x5), some (.int x6), some (.int y0)]) ja_C_tally_73 rfl ⟨Nat.le_of_ble_eq_true rfl, rfl⟩ rfl ?_
  refine q_iload (pc' := 77) ja_C_tally_75 rfl rfl ?_
  refine q_iconst (pc' := 78) ja_C_tally_77 rfl 1 (by decide) ?_
  refine q_ic_ne (pc' := 81) ja_C_tally_78 rfl ?_ ?_
  · intro h1
    refine q_iload (pc' := 96) ja_C_tally_94 rfl rfl ?_
    refine q_iconst (pc' := 97) ja_C_tally_96 rfl 2 (by decide) ?_
    refine q_ic_ne (pc' := 100) ja_C_tally_97 rfl ?_ ?_
    · intro h2
      refine q_iinc (pc' := 113) (ls' := [some (.ref 0), some (.ref x1), some (.ref x2), some (.ref x3), some (.int x4), some (.int x5), some (.int (x6 + 1)), some (.int y0)]) ja_C_tally_110 rfl rfl (x6 + 1) rfl ⟨Nat.le_of_ble_eq_true rfl, rfl⟩ rfl ?_
      refine q_goto ja_C_tally_113 ?_
      exact (k1 h1 h2)
    · intro h3
      refine q_aload_n (pc' := 101) ja_C_tally_100 rfl rfl ?_
      refine q_dup (pc' := 102) ja_C_tally_101 rfl rfl ?_
      refine q_getf (pc' := 105) (v := .int (s x1 1)) ja_C_tally_102 rfl (f_0_c hx1) ⟨by rw [f_0_k hx1], by decide⟩ (f_i (f_0_k hx1) rfl) ?_
      refine q_iconst (pc' := 106) ja_C_tally_105 rfl 1 (by decide) ?_
      refine q_iadd (pc' := 107) ja_C_tally_106 rfl ?_
      refine q_putf (pc' := 110) ja_C_tally_107 rfl (f_0_c hx1) (by rw [f_0_k hx1]) rfl (by rw [f_0_k hx1]; rfl) ?_
      intro s1 e1
      refine q_iinc (pc' := 113) (ls' := [some (.ref 0), some (.ref x1), some (.ref x2), some (.ref x3), some (.int x4), some (.int x5), some (.int (x6 + 1)), some (.int y0)]) ja_C_tally_110 rfl rfl (x6 + 1) rfl ⟨Nat.le_of_ble_eq_true rfl, rfl⟩ rfl ?_
      refine q_goto ja_C_tally_113 ?_
      exact (k2 h1 h3 s1 e1)
  · intro h4
    refine q_aload_n (pc' := 82) ja_C_tally_81 rfl rfl ?_
    refine q_dup (pc' := 83) ja_C_tally_82 rfl rfl ?_
    refine q_getf (pc' := 86) (v := .int (s x1 0)) ja_C_tally_83 rfl (f_0_c hx1) ⟨by rw [f_0_k hx1], by decide⟩ (f_i (f_0_k hx1) rfl) ?_
    refine q_iconst (pc' := 87) ja_C_tally_86 rfl 1 (by decide) ?_
    refine q_iadd (pc' := 88) ja_C_tally_87 rfl ?_
    refine q_putf (pc' := 91) ja_C_tally_88 rfl (f_0_c hx1) (by rw [f_0_k hx1]) rfl (by rw [f_0_k hx1]; rfl) ?_
    intro s2 e2
    refine q_goto ja_C_tally_91 ?_
    refine q_iinc (pc' := 113) (ls' := [some (.ref 0), some (.ref x1), some (.ref x2), some (.ref x3), some (.int x4), some (.int x5), some (.int (x6 + 1)), some (.int y0)]) ja_C_tally_110 rfl rfl (x6 + 1) rfl ⟨Nat.le_of_ble_eq_true rfl, rfl⟩ rfl ?_
    refine q_goto ja_C_tally_113 ?_
    exact (k3 h4 s2 e2)
set_option maxRecDepth 20000 in
theorem t_C_tell {G : jv_X} {d : Nat} {B : Option Value → jg_H → Prop} {s : jg_H} (a1 : Int32) (a2 : Int32) (a3 : Int32)
    (k1 : a1 < 1 → B (some (.int (-2))) s)
    (k2 : ¬ a1 < 1 → ¬ a1 ≤ 3 → B (some (.int (-2))) s)
    (k3 : ¬ a1 < 1 → a1 ≤ 3 → a1 = 2 → a3 < 1 → B (some (.int (-2))) s)
    (k4 : ¬ a1 < 1 → a1 ≤ 3 → a1 = 2 → ¬ a3 < 1 → ¬ a3 ≤ 60 → B (some (.int (-2))) s)
    (k5 : ¬ a1 < 1 → a1 ≤ 3 → a1 = 2 → ¬ a3 < 1 → a3 ≤ 60 → ¬ (s 0 6) = (-1) → (s 0 6) < 0 → a2 < 0 → B (some (.int (-2))) s)
    (k6 : ¬ a1 < 1 → a1 ≤ 3 → a1 = 2 → ¬ a3 < 1 → a3 ≤ 60 → ¬ (s 0 6) = (-1) → (s 0 6) < 0 → ¬ a2 < 0 → ¬ a2 ≤ (s 58 0) → B (some (.int (-2))) s)
    (k7 : ¬ a1 < 1 → a1 ≤ 3 → a1 = 2 → ¬ a3 < 1 → a3 ≤ 60 → ¬ (s 0 6) = (-1) → (s 0 6) < 0 → ¬ a2 < 0 → a2 ≤ (s 58 0) → (s 66 0) < (s 66 1) → (s 66 0) < 0 → B (some (.int (s 66 0))) s)
    (k8 : ¬ a1 < 1 → a1 ≤ 3 → a1 = 2 → ¬ a3 < 1 → a3 ≤ 60 → ¬ (s 0 6) = (-1) → (s 0 6) < 0 → ¬ a2 < 0 → a2 ≤ (s 58 0) → (s 66 0) < (s 66 1) → ¬ (s 66 0) < 0 → jv_in (s 66 0) 5 = true)
    (k9 : ¬ a1 < 1 → a1 ≤ 3 → a1 = 2 → ¬ a3 < 1 → a3 ≤ 60 → ¬ (s 0 6) = (-1) → (s 0 6) < 0 → ¬ a2 < 0 → a2 ≤ (s 58 0) → (s 66 0) < (s 66 1) → ¬ (s 66 0) < 0 → ∀ s1 : jg_H, s1 = jg_up s 67 (s 66 0).toNatClampNeg a1 → jv_in (s1 66 0) 5 = true)
    (k10 : ¬ a1 < 1 → a1 ≤ 3 → a1 = 2 → ¬ a3 < 1 → a3 ≤ 60 → ¬ (s 0 6) = (-1) → (s 0 6) < 0 → ¬ a2 < 0 → a2 ≤ (s 58 0) → (s 66 0) < (s 66 1) → ¬ (s 66 0) < 0 → ∀ s1 : jg_H, s1 = jg_up s 67 (s 66 0).toNatClampNeg a1 → ∀ s2 : jg_H, s2 = jg_up s1 68 (s1 66 0).toNatClampNeg (-1) → jv_in (s2 66 0) 5 = true)
    (k11 : ¬ a1 < 1 → a1 ≤ 3 → a1 = 2 → ¬ a3 < 1 → a3 ≤ 60 → ¬ (s 0 6) = (-1) → (s 0 6) < 0 → ¬ a2 < 0 → a2 ≤ (s 58 0) → (s 66 0) < (s 66 1) → ¬ (s 66 0) < 0 → ∀ s1 : jg_H, s1 = jg_up s 67 (s 66 0).toNatClampNeg a1 → ∀ s2 : jg_H, s2 = jg_up s1 68 (s1 66 0).toNatClampNeg (-1) → ∀ s3 : jg_H, s3 = jg_up s2 69 (s2 66 0).toNatClampNeg a2 → jv_in (s3 66 0) 5 = true)
    (k12 : ¬ a1 < 1 → a1 ≤ 3 → a1 = 2 → ¬ a3 < 1 → a3 ≤ 60 → ¬ (s 0 6) = (-1) → (s 0 6) < 0 → ¬ a2 < 0 → a2 ≤ (s 58 0) → (s 66 0) < (s 66 1) → ¬ (s 66 0) < 0 → ∀ s1 : jg_H, s1 = jg_up s 67 (s 66 0).toNatClampNeg a1 → ∀ s2 : jg_H, s2 = jg_up s1 68 (s1 66 0).toNatClampNeg (-1) → ∀ s3 : jg_H, s3 = jg_up s2 69 (s2 66 0).toNatClampNeg a2 → ∀ s4 : jg_H, s4 = jg_up s3 70 (s3 66 0).toNatClampNeg a3 → ∀ s5 : jg_H, s5 = jg_up s4 66 0 ((s4 66 0) + 1) → B (some (.int (s5 66 0))) s5)
    (k13 : ¬ a1 < 1 → a1 ≤ 3 → a1 = 2 → ¬ a3 < 1 → a3 ≤ 60 → ¬ (s 0 6) = (-1) → (s 0 6) < 0 → ¬ a2 < 0 → a2 ≤ (s 58 0) → ¬ (s 66 0) < (s 66 1) → B (some (.int (-4))) s)
    (k14 : ¬ a1 < 1 → a1 ≤ 3 → a1 = 2 → ¬ a3 < 1 → a3 ≤ 60 → ¬ (s 0 6) = (-1) → ¬ (s 0 6) < 0 → ¬ (s 0 6) < (s 0 3) → a2 < 0 → B (some (.int (-2))) s)
    (k15 : ¬ a1 < 1 → a1 ≤ 3 → a1 = 2 → ¬ a3 < 1 → a3 ≤ 60 → ¬ (s 0 6) = (-1) → ¬ (s 0 6) < 0 → ¬ (s 0 6) < (s 0 3) → ¬ a2 < 0 → ¬ a2 ≤ (s 58 0) → B (some (.int (-2))) s)
    (k16 : ¬ a1 < 1 → a1 ≤ 3 → a1 = 2 → ¬ a3 < 1 → a3 ≤ 60 → ¬ (s 0 6) = (-1) → ¬ (s 0 6) < 0 → ¬ (s 0 6) < (s 0 3) → ¬ a2 < 0 → a2 ≤ (s 58 0) → (s 66 0) < (s 66 1) → (s 66 0) < 0 → B (some (.int (s 66 0))) s)
    (k17 : ¬ a1 < 1 → a1 ≤ 3 → a1 = 2 → ¬ a3 < 1 → a3 ≤ 60 → ¬ (s 0 6) = (-1) → ¬ (s 0 6) < 0 → ¬ (s 0 6) < (s 0 3) → ¬ a2 < 0 → a2 ≤ (s 58 0) → (s 66 0) < (s 66 1) → ¬ (s 66 0) < 0 → jv_in (s 66 0) 5 = true)
    (k18 : ¬ a1 < 1 → a1 ≤ 3 → a1 = 2 → ¬ a3 < 1 → a3 ≤ 60 → ¬ (s 0 6) = (-1) → ¬ (s 0 6) < 0 → ¬ (s 0 6) < (s 0 3) → ¬ a2 < 0 → a2 ≤ (s 58 0) → (s 66 0) < (s 66 1) → ¬ (s 66 0) < 0 → ∀ s6 : jg_H, s6 = jg_up s 67 (s 66 0).toNatClampNeg a1 → jv_in (s6 66 0) 5 = true)
    (k19 : ¬ a1 < 1 → a1 ≤ 3 → a1 = 2 → ¬ a3 < 1 → a3 ≤ 60 → ¬ (s 0 6) = (-1) → ¬ (s 0 6) < 0 → ¬ (s 0 6) < (s 0 3) → ¬ a2 < 0 → a2 ≤ (s 58 0) → (s 66 0) < (s 66 1) → ¬ (s 66 0) < 0 → ∀ s6 : jg_H, s6 = jg_up s 67 (s 66 0).toNatClampNeg a1 → ∀ s7 : jg_H, s7 = jg_up s6 68 (s6 66 0).toNatClampNeg (-1) → jv_in (s7 66 0) 5 = true)
    (k20 : ¬ a1 < 1 → a1 ≤ 3 → a1 = 2 → ¬ a3 < 1 → a3 ≤ 60 → ¬ (s 0 6) = (-1) → ¬ (s 0 6) < 0 → ¬ (s 0 6) < (s 0 3) → ¬ a2 < 0 → a2 ≤ (s 58 0) → (s 66 0) < (s 66 1) → ¬ (s 66 0) < 0 → ∀ s6 : jg_H, s6 = jg_up s 67 (s 66 0).toNatClampNeg a1 → ∀ s7 : jg_H, s7 = jg_up s6 68 (s6 66 0).toNatClampNeg (-1) → ∀ s8 : jg_H, s8 = jg_up s7 69 (s7 66 0).toNatClampNeg a2 → jv_in (s8 66 0) 5 = true)
    (k21 : ¬ a1 < 1 → a1 ≤ 3 → a1 = 2 → ¬ a3 < 1 → a3 ≤ 60 → ¬ (s 0 6) = (-1) → ¬ (s 0 6) < 0 → ¬ (s 0 6) < (s 0 3) → ¬ a2 < 0 → a2 ≤ (s 58 0) → (s 66 0) < (s 66 1) → ¬ (s 66 0) < 0 → ∀ s6 : jg_H, s6 = jg_up s 67 (s 66 0).toNatClampNeg a1 → ∀ s7 : jg_H, s7 = jg_up s6 68 (s6 66 0).toNatClampNeg (-1) → ∀ s8 : jg_H, s8 = jg_up s7 69 (s7 66 0).toNatClampNeg a2 → ∀ s9 : jg_H, s9 = jg_up s8 70 (s8 66 0).toNatClampNeg a3 → ∀ s10 : jg_H, s10 = jg_up s9 66 0 ((s9 66 0) + 1) → B (some (.int (s10 66 0))) s10)
    (k22 : ¬ a1 < 1 → a1 ≤ 3 → a1 = 2 → ¬ a3 < 1 → a3 ≤ 60 → ¬ (s 0 6) = (-1) → ¬ (s 0 6) < 0 → ¬ (s 0 6) < (s 0 3) → ¬ a2 < 0 → a2 ≤ (s 58 0) → ¬ (s 66 0) < (s 66 1) → B (some (.int (-4))) s)
    (k23 : ¬ a1 < 1 → a1 ≤ 3 → a1 = 2 → ¬ a3 < 1 → a3 ≤ 60 → ¬ (s 0 6) = (-1) → ¬ (s 0 6) < 0 → (s 0 6) < (s 0 3) → ¬ (s 0 6) < 8 → a2 < 0 → B (some (.int (-2))) s)
    (k24 : ¬ a1 < 1 → a1 ≤ 3 → a1 = 2 → ¬ a3 < 1 → a3 ≤ 60 → ¬ (s 0 6) = (-1) → ¬ (s 0 6) < 0 → (s 0 6) < (s 0 3) → ¬ (s 0 6) < 8 → ¬ a2 < 0 → ¬ a2 ≤ (s 58 0) → B (some (.int (-2))) s)
    (k25 : ¬ a1 < 1 → a1 ≤ 3 → a1 = 2 → ¬ a3 < 1 → a3 ≤ 60 → ¬ (s 0 6) = (-1) → ¬ (s 0 6) < 0 → (s 0 6) < (s 0 3) → ¬ (s 0 6) < 8 → ¬ a2 < 0 → a2 ≤ (s 58 0) → (s 66 0) < (s 66 1) → (s 66 0) < 0 → B (some (.int (s 66 0))) s)
    (k26 : ¬ a1 < 1 → a1 ≤ 3 → a1 = 2 → ¬ a3 < 1 → a3 ≤ 60 → ¬ (s 0 6) = (-1) → ¬ (s 0 6) < 0 → (s 0 6) < (s 0 3) → ¬ (s 0 6) < 8 → ¬ a2 < 0 → a2 ≤ (s 58 0) → (s 66 0) < (s 66 1) → ¬ (s 66 0) < 0 → jv_in (s 66 0) 5 = true)
    (k27 : ¬ a1 < 1 → a1 ≤ 3 → a1 = 2 → ¬ a3 < 1 → a3 ≤ 60 → ¬ (s 0 6) = (-1) → ¬ (s 0 6) < 0 → (s 0 6) < (s 0 3) → ¬ (s 0 6) < 8 → ¬ a2 < 0 → a2 ≤ (s 58 0) → (s 66 0) < (s 66 1) → ¬ (s 66 0) < 0 → ∀ s11 : jg_H, s11 = jg_up s 67 (s 66 0).toNatClampNeg a1 → jv_in (s11 66 0) 5 = true)
    (k28 : ¬ a1 < 1 → a1 ≤ 3 → a1 = 2 → ¬ a3 < 1 → a3 ≤ 60 → ¬ (s 0 6) = (-1) → ¬ (s 0 6) < 0 → (s 0 6) < (s 0 3) → ¬ (s 0 6) < 8 → ¬ a2 < 0 → a2 ≤ (s 58 0) → (s 66 0) < (s 66 1) → ¬ (s 66 0) < 0 → ∀ s11 : jg_H, s11 = jg_up s 67 (s 66 0).toNatClampNeg a1 → ∀ s12 : jg_H, s12 = jg_up s11 68 (s11 66 0).toNatClampNeg (-1) → jv_in (s12 66 0) 5 = true)
    (k29 : ¬ a1 < 1 → a1 ≤ 3 → a1 = 2 → ¬ a3 < 1 → a3 ≤ 60 → ¬ (s 0 6) = (-1) → ¬ (s 0 6) < 0 → (s 0 6) < (s 0 3) → ¬ (s 0 6) < 8 → ¬ a2 < 0 → a2 ≤ (s 58 0) → (s 66 0) < (s 66 1) → ¬ (s 66 0) < 0 → ∀ s11 : jg_H, s11 = jg_up s 67 (s 66 0).toNatClampNeg a1 → ∀ s12 : jg_H, s12 = jg_up s11 68 (s11 66 0).toNatClampNeg (-1) → ∀ s13 : jg_H, s13 = jg_up s12 69 (s12 66 0).toNatClampNeg a2 → jv_in (s13 66 0) 5 = true)
    (k30 : ¬ a1 < 1 → a1 ≤ 3 → a1 = 2 → ¬ a3 < 1 → a3 ≤ 60 → ¬ (s 0 6) = (-1) → ¬ (s 0 6) < 0 → (s 0 6) < (s 0 3) → ¬ (s 0 6) < 8 → ¬ a2 < 0 → a2 ≤ (s 58 0) → (s 66 0) < (s 66 1) → ¬ (s 66 0) < 0 → ∀ s11 : jg_H, s11 = jg_up s 67 (s 66 0).toNatClampNeg a1 → ∀ s12 : jg_H, s12 = jg_up s11 68 (s11 66 0).toNatClampNeg (-1) → ∀ s13 : jg_H, s13 = jg_up s12 69 (s12 66 0).toNatClampNeg a2 → ∀ s14 : jg_H, s14 = jg_up s13 70 (s13 66 0).toNatClampNeg a3 → ∀ s15 : jg_H, s15 = jg_up s14 66 0 ((s14 66 0) + 1) → B (some (.int (s15 66 0))) s15)
    (k31 : ¬ a1 < 1 → a1 ≤ 3 → a1 = 2 → ¬ a3 < 1 → a3 ≤ 60 → ¬ (s 0 6) = (-1) → ¬ (s 0 6) < 0 → (s 0 6) < (s 0 3) → ¬ (s 0 6) < 8 → ¬ a2 < 0 → a2 ≤ (s 58 0) → ¬ (s 66 0) < (s 66 1) → B (some (.int (-4))) s)
    (k32 : ¬ a1 < 1 → a1 ≤ 3 → a1 = 2 → ¬ a3 < 1 → a3 ≤ 60 → ¬ (s 0 6) = (-1) → ¬ (s 0 6) < 0 → (s 0 6) < (s 0 3) → (s 0 6) < 8 → a2 < 0 → B (some (.int (-2))) s)
    (k33 : ¬ a1 < 1 → a1 ≤ 3 → a1 = 2 → ¬ a3 < 1 → a3 ≤ 60 → ¬ (s 0 6) = (-1) → ¬ (s 0 6) < 0 → (s 0 6) < (s 0 3) → (s 0 6) < 8 → ¬ a2 < 0 → ¬ a2 ≤ (s ((33 + 3 * (s 0 6).toNatClampNeg) + 1) 0) → B (some (.int (-2))) s)
    (k34 : ¬ a1 < 1 → a1 ≤ 3 → a1 = 2 → ¬ a3 < 1 → a3 ≤ 60 → ¬ (s 0 6) = (-1) → ¬ (s 0 6) < 0 → (s 0 6) < (s 0 3) → (s 0 6) < 8 → ¬ a2 < 0 → a2 ≤ (s ((33 + 3 * (s 0 6).toNatClampNeg) + 1) 0) → (s 66 0) < (s 66 1) → (s 66 0) < 0 → B (some (.int (s 66 0))) s)
    (k35 : ¬ a1 < 1 → a1 ≤ 3 → a1 = 2 → ¬ a3 < 1 → a3 ≤ 60 → ¬ (s 0 6) = (-1) → ¬ (s 0 6) < 0 → (s 0 6) < (s 0 3) → (s 0 6) < 8 → ¬ a2 < 0 → a2 ≤ (s ((33 + 3 * (s 0 6).toNatClampNeg) + 1) 0) → (s 66 0) < (s 66 1) → ¬ (s 66 0) < 0 → jv_in (s 66 0) 5 = true)
    (k36 : ¬ a1 < 1 → a1 ≤ 3 → a1 = 2 → ¬ a3 < 1 → a3 ≤ 60 → ¬ (s 0 6) = (-1) → ¬ (s 0 6) < 0 → (s 0 6) < (s 0 3) → (s 0 6) < 8 → ¬ a2 < 0 → a2 ≤ (s ((33 + 3 * (s 0 6).toNatClampNeg) + 1) 0) → (s 66 0) < (s 66 1) → ¬ (s 66 0) < 0 → ∀ s16 : jg_H, s16 = jg_up s 67 (s 66 0).toNatClampNeg a1 → jv_in (s16 66 0) 5 = true)
    (k37 : ¬ a1 < 1 → a1 ≤ 3 → a1 = 2 → ¬ a3 < 1 → a3 ≤ 60 → ¬ (s 0 6) = (-1) → ¬ (s 0 6) < 0 → (s 0 6) < (s 0 3) → (s 0 6) < 8 → ¬ a2 < 0 → a2 ≤ (s ((33 + 3 * (s 0 6).toNatClampNeg) + 1) 0) → (s 66 0) < (s 66 1) → ¬ (s 66 0) < 0 → ∀ s16 : jg_H, s16 = jg_up s 67 (s 66 0).toNatClampNeg a1 → ∀ s17 : jg_H, s17 = jg_up s16 68 (s16 66 0).toNatClampNeg (-1) → jv_in (s17 66 0) 5 = true)
    (k38 : ¬ a1 < 1 → a1 ≤ 3 → a1 = 2 → ¬ a3 < 1 → a3 ≤ 60 → ¬ (s 0 6) = (-1) → ¬ (s 0 6) < 0 → (s 0 6) < (s 0 3) → (s 0 6) < 8 → ¬ a2 < 0 → a2 ≤ (s ((33 + 3 * (s 0 6).toNatClampNeg) + 1) 0) → (s 66 0) < (s 66 1) → ¬ (s 66 0) < 0 → ∀ s16 : jg_H, s16 = jg_up s 67 (s 66 0).toNatClampNeg a1 → ∀ s17 : jg_H, s17 = jg_up s16 68 (s16 66 0).toNatClampNeg (-1) → ∀ s18 : jg_H, s18 = jg_up s17 69 (s17 66 0).toNatClampNeg a2 → jv_in (s18 66 0) 5 = true)
    (k39 : ¬ a1 < 1 → a1 ≤ 3 → a1 = 2 → ¬ a3 < 1 → a3 ≤ 60 → ¬ (s 0 6) = (-1) → ¬ (s 0 6) < 0 → (s 0 6) < (s 0 3) → (s 0 6) < 8 → ¬ a2 < 0 → a2 ≤ (s ((33 + 3 * (s 0 6).toNatClampNeg) + 1) 0) → (s 66 0) < (s 66 1) → ¬ (s 66 0) < 0 → ∀ s16 : jg_H, s16 = jg_up s 67 (s 66 0).toNatClampNeg a1 → ∀ s17 : jg_H, s17 = jg_up s16 68 (s16 66 0).toNatClampNeg (-1) → ∀ s18 : jg_H, s18 = jg_up s17 69 (s17 66 0).toNatClampNeg a2 → ∀ s19 : jg_H, s19 = jg_up s18 70 (s18 66 0).toNatClampNeg a3 → ∀ s20 : jg_H, s20 = jg_up s19 66 0 ((s19 66 0) + 1) → B (some (.int (s20 66 0))) s20)
    (k40 : ¬ a1 < 1 → a1 ≤ 3 → a1 = 2 → ¬ a3 < 1 → a3 ≤ 60 → ¬ (s 0 6) = (-1) → ¬ (s 0 6) < 0 → (s 0 6) < (s 0 3) → (s 0 6) < 8 → ¬ a2 < 0 → a2 ≤ (s ((33 + 3 * (s 0 6).toNatClampNeg) + 1) 0) → ¬ (s 66 0) < (s 66 1) → B (some (.int (-4))) s)
    (k41 : ¬ a1 < 1 → a1 ≤ 3 → a1 = 2 → ¬ a3 < 1 → a3 ≤ 60 → (s 0 6) = (-1) → B (some (.int (-3))) s)
    (k42 : ¬ a1 < 1 → a1 ≤ 3 → ¬ a1 = 2 → ¬ a1 = 3 → ¬ (s 0 6) = (-1) → (s 0 6) < 0 → a2 < 0 → B (some (.int (-2))) s)
    (k43 : ¬ a1 < 1 → a1 ≤ 3 → ¬ a1 = 2 → ¬ a1 = 3 → ¬ (s 0 6) = (-1) → (s 0 6) < 0 → ¬ a2 < 0 → ¬ a2 < (s 58 0) → B (some (.int (-2))) s)
    (k44 : ¬ a1 < 1 → a1 ≤ 3 → ¬ a1 = 2 → ¬ a1 = 3 → ¬ (s 0 6) = (-1) → (s 0 6) < 0 → ¬ a2 < 0 → a2 < (s 58 0) → (s 66 0) < (s 66 1) → (s 66 0) < 0 → B (some (.int (s 66 0))) s)
    (k45 : ¬ a1 < 1 → a1 ≤ 3 → ¬ a1 = 2 → ¬ a1 = 3 → ¬ (s 0 6) = (-1) → (s 0 6) < 0 → ¬ a2 < 0 → a2 < (s 58 0) → (s 66 0) < (s 66 1) → ¬ (s 66 0) < 0 → jv_in (s 66 0) 5 = true)
    (k46 : ¬ a1 < 1 → a1 ≤ 3 → ¬ a1 = 2 → ¬ a1 = 3 → ¬ (s 0 6) = (-1) → (s 0 6) < 0 → ¬ a2 < 0 → a2 < (s 58 0) → (s 66 0) < (s 66 1) → ¬ (s 66 0) < 0 → ∀ s21 : jg_H, s21 = jg_up s 67 (s 66 0).toNatClampNeg a1 → jv_in (s21 66 0) 5 = true)
    (k47 : ¬ a1 < 1 → a1 ≤ 3 → ¬ a1 = 2 → ¬ a1 = 3 → ¬ (s 0 6) = (-1) → (s 0 6) < 0 → ¬ a2 < 0 → a2 < (s 58 0) → (s 66 0) < (s 66 1) → ¬ (s 66 0) < 0 → ∀ s21 : jg_H, s21 = jg_up s 67 (s 66 0).toNatClampNeg a1 → ∀ s22 : jg_H, s22 = jg_up s21 68 (s21 66 0).toNatClampNeg (-1) → jv_in (s22 66 0) 5 = true)
    (k48 : ¬ a1 < 1 → a1 ≤ 3 → ¬ a1 = 2 → ¬ a1 = 3 → ¬ (s 0 6) = (-1) → (s 0 6) < 0 → ¬ a2 < 0 → a2 < (s 58 0) → (s 66 0) < (s 66 1) → ¬ (s 66 0) < 0 → ∀ s21 : jg_H, s21 = jg_up s 67 (s 66 0).toNatClampNeg a1 → ∀ s22 : jg_H, s22 = jg_up s21 68 (s21 66 0).toNatClampNeg (-1) → ∀ s23 : jg_H, s23 = jg_up s22 69 (s22 66 0).toNatClampNeg a2 → jv_in (s23 66 0) 5 = true)
    (k49 : ¬ a1 < 1 → a1 ≤ 3 → ¬ a1 = 2 → ¬ a1 = 3 → ¬ (s 0 6) = (-1) → (s 0 6) < 0 → ¬ a2 < 0 → a2 < (s 58 0) → (s 66 0) < (s 66 1) → ¬ (s 66 0) < 0 → ∀ s21 : jg_H, s21 = jg_up s 67 (s 66 0).toNatClampNeg a1 → ∀ s22 : jg_H, s22 = jg_up s21 68 (s21 66 0).toNatClampNeg (-1) → ∀ s23 : jg_H, s23 = jg_up s22 69 (s22 66 0).toNatClampNeg a2 → ∀ s24 : jg_H, s24 = jg_up s23 70 (s23 66 0).toNatClampNeg (-1) → ∀ s25 : jg_H, s25 = jg_up s24 66 0 ((s24 66 0) + 1) → B (some (.int (s25 66 0))) s25)
    (k50 : ¬ a1 < 1 → a1 ≤ 3 → ¬ a1 = 2 → ¬ a1 = 3 → ¬ (s 0 6) = (-1) → (s 0 6) < 0 → ¬ a2 < 0 → a2 < (s 58 0) → ¬ (s 66 0) < (s 66 1) → B (some (.int (-4))) s)
    (k51 : ¬ a1 < 1 → a1 ≤ 3 → ¬ a1 = 2 → ¬ a1 = 3 → ¬ (s 0 6) = (-1) → ¬ (s 0 6) < 0 → ¬ (s 0 6) < (s 0 3) → a2 < 0 → B (some (.int (-2))) s)
    (k52 : ¬ a1 < 1 → a1 ≤ 3 → ¬ a1 = 2 → ¬ a1 = 3 → ¬ (s 0 6) = (-1) → ¬ (s 0 6) < 0 → ¬ (s 0 6) < (s 0 3) → ¬ a2 < 0 → ¬ a2 < (s 58 0) → B (some (.int (-2))) s)
    (k53 : ¬ a1 < 1 → a1 ≤ 3 → ¬ a1 = 2 → ¬ a1 = 3 → ¬ (s 0 6) = (-1) → ¬ (s 0 6) < 0 → ¬ (s 0 6) < (s 0 3) → ¬ a2 < 0 → a2 < (s 58 0) → (s 66 0) < (s 66 1) → (s 66 0) < 0 → B (some (.int (s 66 0))) s)
    (k54 : ¬ a1 < 1 → a1 ≤ 3 → ¬ a1 = 2 → ¬ a1 = 3 → ¬ (s 0 6) = (-1) → ¬ (s 0 6) < 0 → ¬ (s 0 6) < (s 0 3) → ¬ a2 < 0 → a2 < (s 58 0) → (s 66 0) < (s 66 1) → ¬ (s 66 0) < 0 → jv_in (s 66 0) 5 = true)
    (k55 : ¬ a1 < 1 → a1 ≤ 3 → ¬ a1 = 2 → ¬ a1 = 3 → ¬ (s 0 6) = (-1) → ¬ (s 0 6) < 0 → ¬ (s 0 6) < (s 0 3) → ¬ a2 < 0 → a2 < (s 58 0) → (s 66 0) < (s 66 1) → ¬ (s 66 0) < 0 → ∀ s26 : jg_H, s26 = jg_up s 67 (s 66 0).toNatClampNeg a1 → jv_in (s26 66 0) 5 = true)
    (k56 : ¬ a1 < 1 → a1 ≤ 3 → ¬ a1 = 2 → ¬ a1 = 3 → ¬ (s 0 6) = (-1) → ¬ (s 0 6) < 0 → ¬ (s 0 6) < (s 0 3) → ¬ a2 < 0 → a2 < (s 58 0) → (s 66 0) < (s 66 1) → ¬ (s 66 0) < 0 → ∀ s26 : jg_H, s26 = jg_up s 67 (s 66 0).toNatClampNeg a1 → ∀ s27 : jg_H, s27 = jg_up s26 68 (s26 66 0).toNatClampNeg (-1) → jv_in (s27 66 0) 5 = true)
    (k57 : ¬ a1 < 1 → a1 ≤ 3 → ¬ a1 = 2 → ¬ a1 = 3 → ¬ (s 0 6) = (-1) → ¬ (s 0 6) < 0 → ¬ (s 0 6) < (s 0 3) → ¬ a2 < 0 → a2 < (s 58 0) → (s 66 0) < (s 66 1) → ¬ (s 66 0) < 0 → ∀ s26 : jg_H, s26 = jg_up s 67 (s 66 0).toNatClampNeg a1 → ∀ s27 : jg_H, s27 = jg_up s26 68 (s26 66 0).toNatClampNeg (-1) → ∀ s28 : jg_H, s28 = jg_up s27 69 (s27 66 0).toNatClampNeg a2 → jv_in (s28 66 0) 5 = true)
    (k58 : ¬ a1 < 1 → a1 ≤ 3 → ¬ a1 = 2 → ¬ a1 = 3 → ¬ (s 0 6) = (-1) → ¬ (s 0 6) < 0 → ¬ (s 0 6) < (s 0 3) → ¬ a2 < 0 → a2 < (s 58 0) → (s 66 0) < (s 66 1) → ¬ (s 66 0) < 0 → ∀ s26 : jg_H, s26 = jg_up s 67 (s 66 0).toNatClampNeg a1 → ∀ s27 : jg_H, s27 = jg_up s26 68 (s26 66 0).toNatClampNeg (-1) → ∀ s28 : jg_H, s28 = jg_up s27 69 (s27 66 0).toNatClampNeg a2 → ∀ s29 : jg_H, s29 = jg_up s28 70 (s28 66 0).toNatClampNeg (-1) → ∀ s30 : jg_H, s30 = jg_up s29 66 0 ((s29 66 0) + 1) → B (some (.int (s30 66 0))) s30)
    (k59 : ¬ a1 < 1 → a1 ≤ 3 → ¬ a1 = 2 → ¬ a1 = 3 → ¬ (s 0 6) = (-1) → ¬ (s 0 6) < 0 → ¬ (s 0 6) < (s 0 3) → ¬ a2 < 0 → a2 < (s 58 0) → ¬ (s 66 0) < (s 66 1) → B (some (.int (-4))) s)
    (k60 : ¬ a1 < 1 → a1 ≤ 3 → ¬ a1 = 2 → ¬ a1 = 3 → ¬ (s 0 6) = (-1) → ¬ (s 0 6) < 0 → (s 0 6) < (s 0 3) → ¬ (s 0 6) < 8 → a2 < 0 → B (some (.int (-2))) s)
    (k61 : ¬ a1 < 1 → a1 ≤ 3 → ¬ a1 = 2 → ¬ a1 = 3 → ¬ (s 0 6) = (-1) → ¬ (s 0 6) < 0 → (s 0 6) < (s 0 3) → ¬ (s 0 6) < 8 → ¬ a2 < 0 → ¬ a2 < (s 58 0) → B (some (.int (-2))) s)
    (k62 : ¬ a1 < 1 → a1 ≤ 3 → ¬ a1 = 2 → ¬ a1 = 3 → ¬ (s 0 6) = (-1) → ¬ (s 0 6) < 0 → (s 0 6) < (s 0 3) → ¬ (s 0 6) < 8 → ¬ a2 < 0 → a2 < (s 58 0) → (s 66 0) < (s 66 1) → (s 66 0) < 0 → B (some (.int (s 66 0))) s)
    (k63 : ¬ a1 < 1 → a1 ≤ 3 → ¬ a1 = 2 → ¬ a1 = 3 → ¬ (s 0 6) = (-1) → ¬ (s 0 6) < 0 → (s 0 6) < (s 0 3) → ¬ (s 0 6) < 8 → ¬ a2 < 0 → a2 < (s 58 0) → (s 66 0) < (s 66 1) → ¬ (s 66 0) < 0 → jv_in (s 66 0) 5 = true)
    (k64 : ¬ a1 < 1 → a1 ≤ 3 → ¬ a1 = 2 → ¬ a1 = 3 → ¬ (s 0 6) = (-1) → ¬ (s 0 6) < 0 → (s 0 6) < (s 0 3) → ¬ (s 0 6) < 8 → ¬ a2 < 0 → a2 < (s 58 0) → (s 66 0) < (s 66 1) → ¬ (s 66 0) < 0 → ∀ s31 : jg_H, s31 = jg_up s 67 (s 66 0).toNatClampNeg a1 → jv_in (s31 66 0) 5 = true)
    (k65 : ¬ a1 < 1 → a1 ≤ 3 → ¬ a1 = 2 → ¬ a1 = 3 → ¬ (s 0 6) = (-1) → ¬ (s 0 6) < 0 → (s 0 6) < (s 0 3) → ¬ (s 0 6) < 8 → ¬ a2 < 0 → a2 < (s 58 0) → (s 66 0) < (s 66 1) → ¬ (s 66 0) < 0 → ∀ s31 : jg_H, s31 = jg_up s 67 (s 66 0).toNatClampNeg a1 → ∀ s32 : jg_H, s32 = jg_up s31 68 (s31 66 0).toNatClampNeg (-1) → jv_in (s32 66 0) 5 = true)
    (k66 : ¬ a1 < 1 → a1 ≤ 3 → ¬ a1 = 2 → ¬ a1 = 3 → ¬ (s 0 6) = (-1) → ¬ (s 0 6) < 0 → (s 0 6) < (s 0 3) → ¬ (s 0 6) < 8 → ¬ a2 < 0 → a2 < (s 58 0) → (s 66 0) < (s 66 1) → ¬ (s 66 0) < 0 → ∀ s31 : jg_H, s31 = jg_up s 67 (s 66 0).toNatClampNeg a1 → ∀ s32 : jg_H, s32 = jg_up s31 68 (s31 66 0).toNatClampNeg (-1) → ∀ s33 : jg_H, s33 = jg_up s32 69 (s32 66 0).toNatClampNeg a2 → jv_in (s33 66 0) 5 = true)
    (k67 : ¬ a1 < 1 → a1 ≤ 3 → ¬ a1 = 2 → ¬ a1 = 3 → ¬ (s 0 6) = (-1) → ¬ (s 0 6) < 0 → (s 0 6) < (s 0 3) → ¬ (s 0 6) < 8 → ¬ a2 < 0 → a2 < (s 58 0) → (s 66 0) < (s 66 1) → ¬ (s 66 0) < 0 → ∀ s31 : jg_H, s31 = jg_up s 67 (s 66 0).toNatClampNeg a1 → ∀ s32 : jg_H, s32 = jg_up s31 68 (s31 66 0).toNatClampNeg (-1) → ∀ s33 : jg_H, s33 = jg_up s32 69 (s32 66 0).toNatClampNeg a2 → ∀ s34 : jg_H, s34 = jg_up s33 70 (s33 66 0).toNatClampNeg (-1) → ∀ s35 : jg_H, s35 = jg_up s34 66 0 ((s34 66 0) + 1) → B (some (.int (s35 66 0))) s35)
    (k68 : ¬ a1 < 1 → a1 ≤ 3 → ¬ a1 = 2 → ¬ a1 = 3 → ¬ (s 0 6) = (-1) → ¬ (s 0 6) < 0 → (s 0 6) < (s 0 3) → ¬ (s 0 6) < 8 → ¬ a2 < 0 → a2 < (s 58 0) → ¬ (s 66 0) < (s 66 1) → B (some (.int (-4))) s)
    (k69 : ¬ a1 < 1 → a1 ≤ 3 → ¬ a1 = 2 → ¬ a1 = 3 → ¬ (s 0 6) = (-1) → ¬ (s 0 6) < 0 → (s 0 6) < (s 0 3) → (s 0 6) < 8 → a2 < 0 → B (some (.int (-2))) s)
    (k70 : ¬ a1 < 1 → a1 ≤ 3 → ¬ a1 = 2 → ¬ a1 = 3 → ¬ (s 0 6) = (-1) → ¬ (s 0 6) < 0 → (s 0 6) < (s 0 3) → (s 0 6) < 8 → ¬ a2 < 0 → ¬ a2 < (s ((33 + 3 * (s 0 6).toNatClampNeg) + 1) 0) → B (some (.int (-2))) s)
    (k71 : ¬ a1 < 1 → a1 ≤ 3 → ¬ a1 = 2 → ¬ a1 = 3 → ¬ (s 0 6) = (-1) → ¬ (s 0 6) < 0 → (s 0 6) < (s 0 3) → (s 0 6) < 8 → ¬ a2 < 0 → a2 < (s ((33 + 3 * (s 0 6).toNatClampNeg) + 1) 0) → (s 66 0) < (s 66 1) → (s 66 0) < 0 → B (some (.int (s 66 0))) s)
    (k72 : ¬ a1 < 1 → a1 ≤ 3 → ¬ a1 = 2 → ¬ a1 = 3 → ¬ (s 0 6) = (-1) → ¬ (s 0 6) < 0 → (s 0 6) < (s 0 3) → (s 0 6) < 8 → ¬ a2 < 0 → a2 < (s ((33 + 3 * (s 0 6).toNatClampNeg) + 1) 0) → (s 66 0) < (s 66 1) → ¬ (s 66 0) < 0 → jv_in (s 66 0) 5 = true)
    (k73 : ¬ a1 < 1 → a1 ≤ 3 → ¬ a1 = 2 → ¬ a1 = 3 → ¬ (s 0 6) = (-1) → ¬ (s 0 6) < 0 → (s 0 6) < (s 0 3) → (s 0 6) < 8 → ¬ a2 < 0 → a2 < (s ((33 + 3 * (s 0 6).toNatClampNeg) + 1) 0) → (s 66 0) < (s 66 1) → ¬ (s 66 0) < 0 → ∀ s36 : jg_H, s36 = jg_up s 67 (s 66 0).toNatClampNeg a1 → jv_in (s36 66 0) 5 = true)
    (k74 : ¬ a1 < 1 → a1 ≤ 3 → ¬ a1 = 2 → ¬ a1 = 3 → ¬ (s 0 6) = (-1) → ¬ (s 0 6) < 0 → (s 0 6) < (s 0 3) → (s 0 6) < 8 → ¬ a2 < 0 → a2 < (s ((33 + 3 * (s 0 6).toNatClampNeg) + 1) 0) → (s 66 0) < (s 66 1) → ¬ (s 66 0) < 0 → ∀ s36 : jg_H, s36 = jg_up s 67 (s 66 0).toNatClampNeg a1 → ∀ s37 : jg_H, s37 = jg_up s36 68 (s36 66 0).toNatClampNeg (-1) → jv_in (s37 66 0) 5 = true)
    (k75 : ¬ a1 < 1 → a1 ≤ 3 → ¬ a1 = 2 → ¬ a1 = 3 → ¬ (s 0 6) = (-1) → ¬ (s 0 6) < 0 → (s 0 6) < (s 0 3) → (s 0 6) < 8 → ¬ a2 < 0 → a2 < (s ((33 + 3 * (s 0 6).toNatClampNeg) + 1) 0) → (s 66 0) < (s 66 1) → ¬ (s 66 0) < 0 → ∀ s36 : jg_H, s36 = jg_up s 67 (s 66 0).toNatClampNeg a1 → ∀ s37 : jg_H, s37 = jg_up s36 68 (s36 66 0).toNatClampNeg (-1) → ∀ s38 : jg_H, s38 = jg_up s37 69 (s37 66 0).toNatClampNeg a2 → jv_in (s38 66 0) 5 = true)
    (k76 : ¬ a1 < 1 → a1 ≤ 3 → ¬ a1 = 2 → ¬ a1 = 3 → ¬ (s 0 6) = (-1) → ¬ (s 0 6) < 0 → (s 0 6) < (s 0 3) → (s 0 6) < 8 → ¬ a2 < 0 → a2 < (s ((33 + 3 * (s 0 6).toNatClampNeg) + 1) 0) → (s 66 0) < (s 66 1) → ¬ (s 66 0) < 0 → ∀ s36 : jg_H, s36 = jg_up s 67 (s 66 0).toNatClampNeg a1 → ∀ s37 : jg_H, s37 = jg_up s36 68 (s36 66 0).toNatClampNeg (-1) → ∀ s38 : jg_H, s38 = jg_up s37 69 (s37 66 0).toNatClampNeg a2 → ∀ s39 : jg_H, s39 = jg_up s38 70 (s38 66 0).toNatClampNeg (-1) → ∀ s40 : jg_H, s40 = jg_up s39 66 0 ((s39 66 0) + 1) → B (some (.int (s40 66 0))) s40)
    (k77 : ¬ a1 < 1 → a1 ≤ 3 → ¬ a1 = 2 → ¬ a1 = 3 → ¬ (s 0 6) = (-1) → ¬ (s 0 6) < 0 → (s 0 6) < (s 0 3) → (s 0 6) < 8 → ¬ a2 < 0 → a2 < (s ((33 + 3 * (s 0 6).toNatClampNeg) + 1) 0) → ¬ (s 66 0) < (s 66 1) → B (some (.int (-4))) s)
    (k78 : ¬ a1 < 1 → a1 ≤ 3 → ¬ a1 = 2 → ¬ a1 = 3 → (s 0 6) = (-1) → B (some (.int (-3))) s)
    (k79 : ¬ a1 < 1 → a1 ≤ 3 → ¬ a1 = 2 → a1 = 3 → a3 < 1 → B (some (.int (-2))) s)
    (k80 : ¬ a1 < 1 → a1 ≤ 3 → ¬ a1 = 2 → a1 = 3 → ¬ a3 < 1 → ¬ a3 ≤ 60 → B (some (.int (-2))) s)
    (k81 : ¬ a1 < 1 → a1 ≤ 3 → ¬ a1 = 2 → a1 = 3 → ¬ a3 < 1 → a3 ≤ 60 → ¬ (s 0 6) = (-1) → (s 0 6) < 0 → a2 < 0 → B (some (.int (-2))) s)
    (k82 : ¬ a1 < 1 → a1 ≤ 3 → ¬ a1 = 2 → a1 = 3 → ¬ a3 < 1 → a3 ≤ 60 → ¬ (s 0 6) = (-1) → (s 0 6) < 0 → ¬ a2 < 0 → ¬ a2 < (s 58 0) → B (some (.int (-2))) s)
    (k83 : ¬ a1 < 1 → a1 ≤ 3 → ¬ a1 = 2 → a1 = 3 → ¬ a3 < 1 → a3 ≤ 60 → ¬ (s 0 6) = (-1) → (s 0 6) < 0 → ¬ a2 < 0 → a2 < (s 58 0) → (s 66 0) < (s 66 1) → (s 66 0) < 0 → B (some (.int (s 66 0))) s)
    (k84 : ¬ a1 < 1 → a1 ≤ 3 → ¬ a1 = 2 → a1 = 3 → ¬ a3 < 1 → a3 ≤ 60 → ¬ (s 0 6) = (-1) → (s 0 6) < 0 → ¬ a2 < 0 → a2 < (s 58 0) → (s 66 0) < (s 66 1) → ¬ (s 66 0) < 0 → jv_in (s 66 0) 5 = true)
    (k85 : ¬ a1 < 1 → a1 ≤ 3 → ¬ a1 = 2 → a1 = 3 → ¬ a3 < 1 → a3 ≤ 60 → ¬ (s 0 6) = (-1) → (s 0 6) < 0 → ¬ a2 < 0 → a2 < (s 58 0) → (s 66 0) < (s 66 1) → ¬ (s 66 0) < 0 → ∀ s41 : jg_H, s41 = jg_up s 67 (s 66 0).toNatClampNeg a1 → jv_in (s41 66 0) 5 = true)
    (k86 : ¬ a1 < 1 → a1 ≤ 3 → ¬ a1 = 2 → a1 = 3 → ¬ a3 < 1 → a3 ≤ 60 → ¬ (s 0 6) = (-1) → (s 0 6) < 0 → ¬ a2 < 0 → a2 < (s 58 0) → (s 66 0) < (s 66 1) → ¬ (s 66 0) < 0 → ∀ s41 : jg_H, s41 = jg_up s 67 (s 66 0).toNatClampNeg a1 → ∀ s42 : jg_H, s42 = jg_up s41 68 (s41 66 0).toNatClampNeg (-1) → jv_in (s42 66 0) 5 = true)
    (k87 : ¬ a1 < 1 → a1 ≤ 3 → ¬ a1 = 2 → a1 = 3 → ¬ a3 < 1 → a3 ≤ 60 → ¬ (s 0 6) = (-1) → (s 0 6) < 0 → ¬ a2 < 0 → a2 < (s 58 0) → (s 66 0) < (s 66 1) → ¬ (s 66 0) < 0 → ∀ s41 : jg_H, s41 = jg_up s 67 (s 66 0).toNatClampNeg a1 → ∀ s42 : jg_H, s42 = jg_up s41 68 (s41 66 0).toNatClampNeg (-1) → ∀ s43 : jg_H, s43 = jg_up s42 69 (s42 66 0).toNatClampNeg a2 → jv_in (s43 66 0) 5 = true)
    (k88 : ¬ a1 < 1 → a1 ≤ 3 → ¬ a1 = 2 → a1 = 3 → ¬ a3 < 1 → a3 ≤ 60 → ¬ (s 0 6) = (-1) → (s 0 6) < 0 → ¬ a2 < 0 → a2 < (s 58 0) → (s 66 0) < (s 66 1) → ¬ (s 66 0) < 0 → ∀ s41 : jg_H, s41 = jg_up s 67 (s 66 0).toNatClampNeg a1 → ∀ s42 : jg_H, s42 = jg_up s41 68 (s41 66 0).toNatClampNeg (-1) → ∀ s43 : jg_H, s43 = jg_up s42 69 (s42 66 0).toNatClampNeg a2 → ∀ s44 : jg_H, s44 = jg_up s43 70 (s43 66 0).toNatClampNeg a3 → ∀ s45 : jg_H, s45 = jg_up s44 66 0 ((s44 66 0) + 1) → B (some (.int (s45 66 0))) s45)
    (k89 : ¬ a1 < 1 → a1 ≤ 3 → ¬ a1 = 2 → a1 = 3 → ¬ a3 < 1 → a3 ≤ 60 → ¬ (s 0 6) = (-1) → (s 0 6) < 0 → ¬ a2 < 0 → a2 < (s 58 0) → ¬ (s 66 0) < (s 66 1) → B (some (.int (-4))) s)
    (k90 : ¬ a1 < 1 → a1 ≤ 3 → ¬ a1 = 2 → a1 = 3 → ¬ a3 < 1 → a3 ≤ 60 → ¬ (s 0 6) = (-1) → ¬ (s 0 6) < 0 → ¬ (s 0 6) < (s 0 3) → a2 < 0 → B (some (.int (-2))) s)
    (k91 : ¬ a1 < 1 → a1 ≤ 3 → ¬ a1 = 2 → a1 = 3 → ¬ a3 < 1 → a3 ≤ 60 → ¬ (s 0 6) = (-1) → ¬ (s 0 6) < 0 → ¬ (s 0 6) < (s 0 3) → ¬ a2 < 0 → ¬ a2 < (s 58 0) → B (some (.int (-2))) s)
    (k92 : ¬ a1 < 1 → a1 ≤ 3 → ¬ a1 = 2 → a1 = 3 → ¬ a3 < 1 → a3 ≤ 60 → ¬ (s 0 6) = (-1) → ¬ (s 0 6) < 0 → ¬ (s 0 6) < (s 0 3) → ¬ a2 < 0 → a2 < (s 58 0) → (s 66 0) < (s 66 1) → (s 66 0) < 0 → B (some (.int (s 66 0))) s)
    (k93 : ¬ a1 < 1 → a1 ≤ 3 → ¬ a1 = 2 → a1 = 3 → ¬ a3 < 1 → a3 ≤ 60 → ¬ (s 0 6) = (-1) → ¬ (s 0 6) < 0 → ¬ (s 0 6) < (s 0 3) → ¬ a2 < 0 → a2 < (s 58 0) → (s 66 0) < (s 66 1) → ¬ (s 66 0) < 0 → jv_in (s 66 0) 5 = true)
    (k94 : ¬ a1 < 1 → a1 ≤ 3 → ¬ a1 = 2 → a1 = 3 → ¬ a3 < 1 → a3 ≤ 60 → ¬ (s 0 6) = (-1) → ¬ (s 0 6) < 0 → ¬ (s 0 6) < (s 0 3) → ¬ a2 < 0 → a2 < (s 58 0) → (s 66 0) < (s 66 1) → ¬ (s 66 0) < 0 → ∀ s46 : jg_H, s46 = jg_up s 67 (s 66 0).toNatClampNeg a1 → jv_in (s46 66 0) 5 = true)
    (k95 : ¬ a1 < 1 → a1 ≤ 3 → ¬ a1 = 2 → a1 = 3 → ¬ a3 < 1 → a3 ≤ 60 → ¬ (s 0 6) = (-1) → ¬ (s 0 6) < 0 → ¬ (s 0 6) < (s 0 3) → ¬ a2 < 0 → a2 < (s 58 0) → (s 66 0) < (s 66 1) → ¬ (s 66 0) < 0 → ∀ s46 : jg_H, s46 = jg_up s 67 (s 66 0).toNatClampNeg a1 → ∀ s47 : jg_H, s47 = jg_up s46 68 (s46 66 0).toNatClampNeg (-1) → jv_in (s47 66 0) 5 = true)
    (k96 : ¬ a1 < 1 → a1 ≤ 3 → ¬ a1 = 2 → a1 = 3 → ¬ a3 < 1 → a3 ≤ 60 → ¬ (s 0 6) = (-1) → ¬ (s 0 6) < 0 → ¬ (s 0 6) < (s 0 3) → ¬ a2 < 0 → a2 < (s 58 0) → (s 66 0) < (s 66 1) → ¬ (s 66 0) < 0 → ∀ s46 : jg_H, s46 = jg_up s 67 (s 66 0).toNatClampNeg a1 → ∀ s47 : jg_H, s47 = jg_up s46 68 (s46 66 0).toNatClampNeg (-1) → ∀ s48 : jg_H, s48 = jg_up s47 69 (s47 66 0).toNatClampNeg a2 → jv_in (s48 66 0) 5 = true)
    (k97 : ¬ a1 < 1 → a1 ≤ 3 → ¬ a1 = 2 → a1 = 3 → ¬ a3 < 1 → a3 ≤ 60 → ¬ (s 0 6) = (-1) → ¬ (s 0 6) < 0 → ¬ (s 0 6) < (s 0 3) → ¬ a2 < 0 → a2 < (s 58 0) → (s 66 0) < (s 66 1) → ¬ (s 66 0) < 0 → ∀ s46 : jg_H, s46 = jg_up s 67 (s 66 0).toNatClampNeg a1 → ∀ s47 : jg_H, s47 = jg_up s46 68 (s46 66 0).toNatClampNeg (-1) → ∀ s48 : jg_H, s48 = jg_up s47 69 (s47 66 0).toNatClampNeg a2 → ∀ s49 : jg_H, s49 = jg_up s48 70 (s48 66 0).toNatClampNeg a3 → ∀ s50 : jg_H, s50 = jg_up s49 66 0 ((s49 66 0) + 1) → B (some (.int (s50 66 0))) s50)
    (k98 : ¬ a1 < 1 → a1 ≤ 3 → ¬ a1 = 2 → a1 = 3 → ¬ a3 < 1 → a3 ≤ 60 → ¬ (s 0 6) = (-1) → ¬ (s 0 6) < 0 → ¬ (s 0 6) < (s 0 3) → ¬ a2 < 0 → a2 < (s 58 0) → ¬ (s 66 0) < (s 66 1) → B (some (.int (-4))) s)
    (k99 : ¬ a1 < 1 → a1 ≤ 3 → ¬ a1 = 2 → a1 = 3 → ¬ a3 < 1 → a3 ≤ 60 → ¬ (s 0 6) = (-1) → ¬ (s 0 6) < 0 → (s 0 6) < (s 0 3) → ¬ (s 0 6) < 8 → a2 < 0 → B (some (.int (-2))) s)
    (k100 : ¬ a1 < 1 → a1 ≤ 3 → ¬ a1 = 2 → a1 = 3 → ¬ a3 < 1 → a3 ≤ 60 → ¬ (s 0 6) = (-1) → ¬ (s 0 6) < 0 → (s 0 6) < (s 0 3) → ¬ (s 0 6) < 8 → ¬ a2 < 0 → ¬ a2 < (s 58 0) → B (some (.int (-2))) s)
    (k101 : ¬ a1 < 1 → a1 ≤ 3 → ¬ a1 = 2 → a1 = 3 → ¬ a3 < 1 → a3 ≤ 60 → ¬ (s 0 6) = (-1) → ¬ (s 0 6) < 0 → (s 0 6) < (s 0 3) → ¬ (s 0 6) < 8 → ¬ a2 < 0 → a2 < (s 58 0) → (s 66 0) < (s 66 1) → (s 66 0) < 0 → B (some (.int (s 66 0))) s)
    (k102 : ¬ a1 < 1 → a1 ≤ 3 → ¬ a1 = 2 → a1 = 3 → ¬ a3 < 1 → a3 ≤ 60 → ¬ (s 0 6) = (-1) → ¬ (s 0 6) < 0 → (s 0 6) < (s 0 3) → ¬ (s 0 6) < 8 → ¬ a2 < 0 → a2 < (s 58 0) → (s 66 0) < (s 66 1) → ¬ (s 66 0) < 0 → jv_in (s 66 0) 5 = true)
    (k103 : ¬ a1 < 1 → a1 ≤ 3 → ¬ a1 = 2 → a1 = 3 → ¬ a3 < 1 → a3 ≤ 60 → ¬ (s 0 6) = (-1) → ¬ (s 0 6) < 0 → (s 0 6) < (s 0 3) → ¬ (s 0 6) < 8 → ¬ a2 < 0 → a2 < (s 58 0) → (s 66 0) < (s 66 1) → ¬ (s 66 0) < 0 → ∀ s51 : jg_H, s51 = jg_up s 67 (s 66 0).toNatClampNeg a1 → jv_in (s51 66 0) 5 = true)
    (k104 : ¬ a1 < 1 → a1 ≤ 3 → ¬ a1 = 2 → a1 = 3 → ¬ a3 < 1 → a3 ≤ 60 → ¬ (s 0 6) = (-1) → ¬ (s 0 6) < 0 → (s 0 6) < (s 0 3) → ¬ (s 0 6) < 8 → ¬ a2 < 0 → a2 < (s 58 0) → (s 66 0) < (s 66 1) → ¬ (s 66 0) < 0 → ∀ s51 : jg_H, s51 = jg_up s 67 (s 66 0).toNatClampNeg a1 → ∀ s52 : jg_H, s52 = jg_up s51 68 (s51 66 0).toNatClampNeg (-1) → jv_in (s52 66 0) 5 = true)
    (k105 : ¬ a1 < 1 → a1 ≤ 3 → ¬ a1 = 2 → a1 = 3 → ¬ a3 < 1 → a3 ≤ 60 → ¬ (s 0 6) = (-1) → ¬ (s 0 6) < 0 → (s 0 6) < (s 0 3) → ¬ (s 0 6) < 8 → ¬ a2 < 0 → a2 < (s 58 0) → (s 66 0) < (s 66 1) → ¬ (s 66 0) < 0 → ∀ s51 : jg_H, s51 = jg_up s 67 (s 66 0).toNatClampNeg a1 → ∀ s52 : jg_H, s52 = jg_up s51 68 (s51 66 0).toNatClampNeg (-1) → ∀ s53 : jg_H, s53 = jg_up s52 69 (s52 66 0).toNatClampNeg a2 → jv_in (s53 66 0) 5 = true)
    (k106 : ¬ a1 < 1 → a1 ≤ 3 → ¬ a1 = 2 → a1 = 3 → ¬ a3 < 1 → a3 ≤ 60 → ¬ (s 0 6) = (-1) → ¬ (s 0 6) < 0 → (s 0 6) < (s 0 3) → ¬ (s 0 6) < 8 → ¬ a2 < 0 → a2 < (s 58 0) → (s 66 0) < (s 66 1) → ¬ (s 66 0) < 0 → ∀ s51 : jg_H, s51 = jg_up s 67 (s 66 0).toNatClampNeg a1 → ∀ s52 : jg_H, s52 = jg_up s51 68 (s51 66 0).toNatClampNeg (-1) → ∀ s53 : jg_H, s53 = jg_up s52 69 (s52 66 0).toNatClampNeg a2 → ∀ s54 : jg_H, s54 = jg_up s53 70 (s53 66 0).toNatClampNeg a3 → ∀ s55 : jg_H, s55 = jg_up s54 66 0 ((s54 66 0) + 1) → B (some (.int (s55 66 0))) s55)
    (k107 : ¬ a1 < 1 → a1 ≤ 3 → ¬ a1 = 2 → a1 = 3 → ¬ a3 < 1 → a3 ≤ 60 → ¬ (s 0 6) = (-1) → ¬ (s 0 6) < 0 → (s 0 6) < (s 0 3) → ¬ (s 0 6) < 8 → ¬ a2 < 0 → a2 < (s 58 0) → ¬ (s 66 0) < (s 66 1) → B (some (.int (-4))) s)
    (k108 : ¬ a1 < 1 → a1 ≤ 3 → ¬ a1 = 2 → a1 = 3 → ¬ a3 < 1 → a3 ≤ 60 → ¬ (s 0 6) = (-1) → ¬ (s 0 6) < 0 → (s 0 6) < (s 0 3) → (s 0 6) < 8 → a2 < 0 → B (some (.int (-2))) s)
    (k109 : ¬ a1 < 1 → a1 ≤ 3 → ¬ a1 = 2 → a1 = 3 → ¬ a3 < 1 → a3 ≤ 60 → ¬ (s 0 6) = (-1) → ¬ (s 0 6) < 0 → (s 0 6) < (s 0 3) → (s 0 6) < 8 → ¬ a2 < 0 → ¬ a2 < (s ((33 + 3 * (s 0 6).toNatClampNeg) + 1) 0) → B (some (.int (-2))) s)
    (k110 : ¬ a1 < 1 → a1 ≤ 3 → ¬ a1 = 2 → a1 = 3 → ¬ a3 < 1 → a3 ≤ 60 → ¬ (s 0 6) = (-1) → ¬ (s 0 6) < 0 → (s 0 6) < (s 0 3) → (s 0 6) < 8 → ¬ a2 < 0 → a2 < (s ((33 + 3 * (s 0 6).toNatClampNeg) + 1) 0) → (s 66 0) < (s 66 1) → (s 66 0) < 0 → B (some (.int (s 66 0))) s)
    (k111 : ¬ a1 < 1 → a1 ≤ 3 → ¬ a1 = 2 → a1 = 3 → ¬ a3 < 1 → a3 ≤ 60 → ¬ (s 0 6) = (-1) → ¬ (s 0 6) < 0 → (s 0 6) < (s 0 3) → (s 0 6) < 8 → ¬ a2 < 0 → a2 < (s ((33 + 3 * (s 0 6).toNatClampNeg) + 1) 0) → (s 66 0) < (s 66 1) → ¬ (s 66 0) < 0 → jv_in (s 66 0) 5 = true)
    (k112 : ¬ a1 < 1 → a1 ≤ 3 → ¬ a1 = 2 → a1 = 3 → ¬ a3 < 1 → a3 ≤ 60 → ¬ (s 0 6) = (-1) → ¬ (s 0 6) < 0 → (s 0 6) < (s 0 3) → (s 0 6) < 8 → ¬ a2 < 0 → a2 < (s ((33 + 3 * (s 0 6).toNatClampNeg) + 1) 0) → (s 66 0) < (s 66 1) → ¬ (s 66 0) < 0 → ∀ s56 : jg_H, s56 = jg_up s 67 (s 66 0).toNatClampNeg a1 → jv_in (s56 66 0) 5 = true)
    (k113 : ¬ a1 < 1 → a1 ≤ 3 → ¬ a1 = 2 → a1 = 3 → ¬ a3 < 1 → a3 ≤ 60 → ¬ (s 0 6) = (-1) → ¬ (s 0 6) < 0 → (s 0 6) < (s 0 3) → (s 0 6) < 8 → ¬ a2 < 0 → a2 < (s ((33 + 3 * (s 0 6).toNatClampNeg) + 1) 0) → (s 66 0) < (s 66 1) → ¬ (s 66 0) < 0 → ∀ s56 : jg_H, s56 = jg_up s 67 (s 66 0).toNatClampNeg a1 → ∀ s57 : jg_H, s57 = jg_up s56 68 (s56 66 0).toNatClampNeg (-1) → jv_in (s57 66 0) 5 = true)
    (k114 : ¬ a1 < 1 → a1 ≤ 3 → ¬ a1 = 2 → a1 = 3 → ¬ a3 < 1 → a3 ≤ 60 → ¬ (s 0 6) = (-1) → ¬ (s 0 6) < 0 → (s 0 6) < (s 0 3) → (s 0 6) < 8 → ¬ a2 < 0 → a2 < (s ((33 + 3 * (s 0 6).toNatClampNeg) + 1) 0) → (s 66 0) < (s 66 1) → ¬ (s 66 0) < 0 → ∀ s56 : jg_H, s56 = jg_up s 67 (s 66 0).toNatClampNeg a1 → ∀ s57 : jg_H, s57 = jg_up s56 68 (s56 66 0).toNatClampNeg (-1) → ∀ s58 : jg_H, s58 = jg_up s57 69 (s57 66 0).toNatClampNeg a2 → jv_in (s58 66 0) 5 = true)
    (k115 : ¬ a1 < 1 → a1 ≤ 3 → ¬ a1 = 2 → a1 = 3 → ¬ a3 < 1 → a3 ≤ 60 → ¬ (s 0 6) = (-1) → ¬ (s 0 6) < 0 → (s 0 6) < (s 0 3) → (s 0 6) < 8 → ¬ a2 < 0 → a2 < (s ((33 + 3 * (s 0 6).toNatClampNeg) + 1) 0) → (s 66 0) < (s 66 1) → ¬ (s 66 0) < 0 → ∀ s56 : jg_H, s56 = jg_up s 67 (s 66 0).toNatClampNeg a1 → ∀ s57 : jg_H, s57 = jg_up s56 68 (s56 66 0).toNatClampNeg (-1) → ∀ s58 : jg_H, s58 = jg_up s57 69 (s57 66 0).toNatClampNeg a2 → ∀ s59 : jg_H, s59 = jg_up s58 70 (s58 66 0).toNatClampNeg a3 → ∀ s60 : jg_H, s60 = jg_up s59 66 0 ((s59 66 0) + 1) → B (some (.int (s60 66 0))) s60)
    (k116 : ¬ a1 < 1 → a1 ≤ 3 → ¬ a1 = 2 → a1 = 3 → ¬ a3 < 1 → a3 ≤ 60 → ¬ (s 0 6) = (-1) → ¬ (s 0 6) < 0 → (s 0 6) < (s 0 3) → (s 0 6) < 8 → ¬ a2 < 0 → a2 < (s ((33 + 3 * (s 0 6).toNatClampNeg) + 1) 0) → ¬ (s 66 0) < (s 66 1) → B (some (.int (-4))) s)
    (k117 : ¬ a1 < 1 → a1 ≤ 3 → ¬ a1 = 2 → a1 = 3 → ¬ a3 < 1 → a3 ≤ 60 → (s 0 6) = (-1) → B (some (.int (-3))) s) :
    q_P G (d + 3) 106 [.ref 0, .int a1, .int a2, .int a3] s B := by
  refine q_in (M := jm_C_tell) rfl (Nat.le_of_ble_eq_true rfl) (ls := [some (.ref 0), some (.int a1), some (.int a2), some (.int a3)]) rfl ?_
  refine q_iload_n (pc' := 1) ja_C_tell_0 rfl rfl ?_
  refine q_stat (pc' := 4) (as := [.int a1]) (r := []) ja_C_tell_1 rfl (by decide) rfl rfl ?_
  refine q_in (M := jm_C_isAmendment) rfl (Nat.le_of_ble_eq_true rfl) (ls := [some (.int a1)]) rfl ?_
  refine q_iload_n (pc' := 1) ja_C_isAmendment_0 rfl rfl ?_
  refine q_iconst (pc' := 2) ja_C_isAmendment_1 rfl 1 (by decide) ?_
  refine q_ic_lt (pc' := 5) ja_C_isAmendment_2 rfl ?_ ?_
  · intro h1
    refine q_iconst (pc' := 15) ja_C_isAmendment_14 rfl 0 (by decide) ?_
    refine q_iret ja_C_isAmendment_15 rfl (by decide) ?_
    show q_W _ _ _ _ 4 [some (.ref 0), some (.int a1), some (.int a2), some (.int a3)] [.int 0] s
    refine q_if_eq (pc' := 7) ja_C_tell_4 rfl (fun _ => ?_) (fun h => absurd ((by decide : (0 : Int32) = 0)) h)
    refine q_bipush (pc' := 23) ja_C_tell_21 rfl (-2) (by decide) ?_
    exact q_iret ja_C_tell_23 rfl rfl (k1 h1)
  · intro h2
    refine q_iload_n (pc' := 6) ja_C_isAmendment_5 rfl rfl ?_
    refine q_iconst (pc' := 7) ja_C_isAmendment_6 rfl 3 (by decide) ?_
    refine q_ic_gt (pc' := 10) ja_C_isAmendment_7 rfl ?_ ?_
    · intro h3
      refine q_iconst (pc' := 15) ja_C_isAmendment_14 rfl 0 (by decide) ?_
      refine q_iret ja_C_isAmendment_15 rfl (by decide) ?_
      show q_W _ _ _ _ 4 [some (.ref 0), some (.int a1), some (.int a2), some (.int a3)] [.int 0] s
      refine q_if_eq (pc' := 7) ja_C_tell_4 rfl (fun _ => ?_) (fun h => absurd ((by decide : (0 : Int32) = 0)) h)
      refine q_bipush (pc' := 23) ja_C_tell_21 rfl (-2) (by decide) ?_
      exact q_iret ja_C_tell_23 rfl rfl (k2 h2 h3)
    · intro h4
      refine q_iconst (pc' := 11) ja_C_isAmendment_10 rfl 1 (by decide) ?_
      refine q_goto ja_C_isAmendment_11 ?_
      refine q_iret ja_C_isAmendment_15 rfl (by decide) ?_
      show q_W _ _ _ _ 4 [some (.ref 0), some (.int a1), some (.int a2), some (.int a3)] [.int 1] s
      refine q_if_eq (pc' := 7) ja_C_tell_4 rfl (fun h => absurd h ((by decide : ¬ (1 : Int32) = 0))) (fun _ => ?_)
      refine q_iload_n (pc' := 8) ja_C_tell_7 rfl rfl ?_
      refine q_stat (pc' := 11) (as := [.int a1]) (r := []) ja_C_tell_8 rfl (by decide) rfl rfl ?_
      refine q_in (M := jm_C_takesWord) rfl (Nat.le_of_ble_eq_true rfl) (ls := [some (.int a1)]) rfl ?_
      refine q_iload_n (pc' := 1) ja_C_takesWord_0 rfl rfl ?_
      refine q_iconst (pc' := 2) ja_C_takesWord_1 rfl 2 (by decide) ?_
      refine q_ic_eq (pc' := 5) ja_C_takesWord_2 rfl ?_ ?_
      · intro h5
        refine q_iconst (pc' := 11) ja_C_takesWord_10 rfl 1 (by decide) ?_
        refine q_goto ja_C_takesWord_11 ?_
        refine q_iret ja_C_takesWord_15 rfl (by decide) ?_
        show q_W _ _ _ _ 11 [some (.ref 0), some (.int a1), some (.int a2), some (.int a3)] [.int 1] s
        refine q_if_eq (pc' := 14) ja_C_tell_11 rfl (fun h => absurd h ((by decide : ¬ (1 : Int32) = 0))) (fun _ => ?_)
        refine q_iload_n (pc' := 15) ja_C_tell_14 rfl rfl ?_
        refine q_stat (pc' := 18) (as := [.int a3]) (r := []) ja_C_tell_15 rfl (by decide) rfl rfl ?_
        refine q_in (M := jm_C_isWord) rfl (Nat.le_of_ble_eq_true rfl) (ls := [some (.int a3)]) rfl ?_
        refine q_iload_n (pc' := 1) ja_C_isWord_0 rfl rfl ?_
        refine q_iconst (pc' := 2) ja_C_isWord_1 rfl 1 (by decide) ?_
        refine q_ic_lt (pc' := 5) ja_C_isWord_2 rfl ?_ ?_
        · intro h6
          refine q_iconst (pc' := 16) ja_C_isWord_15 rfl 0 (by decide) ?_
          refine q_iret ja_C_isWord_16 rfl (by decide) ?_
          show q_W _ _ _ _ 18 [some (.ref 0), some (.int a1), some (.int a2), some (.int a3)] [.int 0] s
          refine q_if_ne (pc' := 21) ja_C_tell_18 rfl (fun h => absurd ((by decide : (0 : Int32) = 0)) h) (fun _ => ?_)
          refine q_bipush (pc' := 23) ja_C_tell_21 rfl (-2) (by decide) ?_
          exact q_iret ja_C_tell_23 rfl rfl (k3 h2 h4 h5 h6)
        · intro h7
          refine q_iload_n (pc' := 6) ja_C_isWord_5 rfl rfl ?_
          refine q_bipush (pc' := 8) ja_C_isWord_6 rfl 60 (by decide) ?_
          refine q_ic_gt (pc' := 11) ja_C_isWord_8 rfl ?_ ?_
          · intro h8
            refine q_iconst (pc' := 16) ja_C_isWord_15 rfl 0 (by decide) ?_
            refine q_iret ja_C_isWord_16 rfl (by decide) ?_
            show q_W _ _ _ _ 18 [some (.ref 0), some (.int a1), some (.int a2), some (.int a3)] [.int 0] s
            refine q_if_ne (pc' := 21) ja_C_tell_18 rfl (fun h => absurd ((by decide : (0 : Int32) = 0)) h) (fun _ => ?_)
            refine q_bipush (pc' := 23) ja_C_tell_21 rfl (-2) (by decide) ?_
            exact q_iret ja_C_tell_23 rfl rfl (k4 h2 h4 h5 h7 h8)
          · intro h9
            refine q_iconst (pc' := 12) ja_C_isWord_11 rfl 1 (by decide) ?_
            refine q_goto ja_C_isWord_12 ?_
            refine q_iret ja_C_isWord_16 rfl (by decide) ?_
            show q_W _ _ _ _ 18 [some (.ref 0), some (.int a1), some (.int a2), some (.int a3)] [.int 1] s
            refine q_if_ne (pc' := 21) ja_C_tell_18 rfl (fun _ => ?_) (fun h => absurd h ((by decide : ¬ (1 : Int32) = 0)))
            refine q_aload_n (pc' := 25) ja_C_tell_24 rfl rfl ?_
            refine q_getf (pc' := 28) (v := .int (s 0 6)) ja_C_tell_25 rfl (by decide) ⟨rfl, by decide⟩ rfl ?_
            refine q_iconst (pc' := 29) ja_C_tell_28 rfl (-1) (by decide) ?_
            refine q_ic_ne (pc' := 32) ja_C_tell_29 rfl ?_ ?_
            · intro h10
              refine q_aload_n (pc' := 36) ja_C_tell_35 rfl rfl ?_
              refine q_virt (pc' := 39) (c := 0) (as := []) (r := []) ja_C_tell_36 rfl rfl rfl (by decide) ⟨rfl, by decide⟩ ?_
              refine q_in (M := jm_C_floor) rfl (Nat.le_of_ble_eq_true rfl) (ls := [some (.ref 0)]) rfl ?_
              refine q_aload_n (pc' := 1) ja_C_floor_0 rfl rfl ?_
              refine q_aload_n (pc' := 2) ja_C_floor_1 rfl rfl ?_
              refine q_getf (pc' := 5) (v := .int (s 0 6)) ja_C_floor_2 rfl (by decide) ⟨rfl, by decide⟩ rfl ?_
              refine q_virt (pc' := 8) (c := 0) (as := [.int (s 0 6)]) (r := []) ja_C_floor_5 rfl rfl rfl (by decide) ⟨rfl, by decide⟩ ?_
              refine q_in (M := jm_C_isBill) rfl (Nat.le_of_ble_eq_true rfl) (ls := [some (.ref 0), some (.int (s 0 6))]) rfl ?_
              refine q_iload_n (pc' := 1) ja_C_isBill_0 rfl rfl ?_
              refine q_if_lt (pc' := 4) ja_C_isBill_1 rfl ?_ ?_
              · intro h11
                refine q_iconst (pc' := 26) ja_C_isBill_25 rfl 0 (by decide) ?_
                refine q_iret ja_C_isBill_26 rfl (by decide) ?_
                show q_W _ _ _ _ 8 [some (.ref 0)] [.int 0] s
                refine q_if_eq (pc' := 11) ja_C_floor_8 rfl (fun _ => ?_) (fun h => absurd ((by decide : (0 : Int32) = 0)) h)
                refine q_aload_n (pc' := 27) ja_C_floor_26 rfl rfl ?_
                refine q_getf (pc' := 30) (v := .ref 58) ja_C_floor_27 rfl (by decide) ⟨rfl, by decide⟩ rfl ?_
                refine q_aret ja_C_floor_30 rfl ?_
                show q_W _ _ _ _ 39 [some (.ref 0), some (.int a1), some (.int a2), some (.int a3)] [.ref 58] s
                refine q_iload_n (pc' := 40) ja_C_tell_39 rfl rfl ?_
                refine q_iload_n (pc' := 41) ja_C_tell_40 rfl rfl ?_
                refine q_virt (pc' := 44) (c := 58) (as := [.int a1, .int a2]) (r := []) ja_C_tell_41 rfl rfl rfl (by decide) ⟨rfl, by decide⟩ ?_
                refine q_in (M := jm_Sections_has) rfl (Nat.le_of_ble_eq_true rfl) (ls := [some (.ref 58), some (.int a1), some (.int a2)]) rfl ?_
                refine q_iload_n (pc' := 1) ja_Sections_has_0 rfl rfl ?_
                refine q_if_lt (pc' := 4) ja_Sections_has_1 rfl ?_ ?_
                · intro h12
                  refine q_iconst (pc' := 33) ja_Sections_has_32 rfl 0 (by decide) ?_
                  refine q_iret ja_Sections_has_33 rfl (by decide) ?_
                  show q_W _ _ _ _ 44 [some (.ref 0), some (.int a1), some (.int a2), some (.int a3)] [.int 0] s
                  refine q_if_ne (pc' := 47) ja_C_tell_44 rfl (fun h => absurd ((by decide : (0 : Int32) = 0)) h) (fun _ => ?_)
                  refine q_bipush (pc' := 49) ja_C_tell_47 rfl (-2) (by decide) ?_
                  exact q_iret ja_C_tell_49 rfl rfl (k5 h2 h4 h5 h7 h9 h10 h11 h12)
                · intro h13
                  refine q_iload_n (pc' := 5) ja_Sections_has_4 rfl rfl ?_
                  refine q_iconst (pc' := 6) ja_Sections_has_5 rfl 2 (by decide) ?_
                  refine q_ic_ne (pc' := 9) ja_Sections_has_6 rfl (fun h => absurd (h5) h) (fun _ => ?_)
                  refine q_iload_n (pc' := 10) ja_Sections_has_9 rfl rfl ?_
                  refine q_aload_n (pc' := 11) ja_Sections_has_10 rfl rfl ?_
                  refine q_getf (pc' := 14) (v := .int (s 58 0)) ja_Sections_has_11 rfl (by decide) ⟨rfl, by decide⟩ rfl ?_
                  refine q_ic_gt (pc' := 17) ja_Sections_has_14 rfl ?_ ?_
                  · intro h14
                    refine q_iconst (pc' := 33) ja_Sections_has_32 rfl 0 (by decide) ?_
                    refine q_iret ja_Sections_has_33 rfl (by decide) ?_
                    show q_W _ _ _ _ 44 [some (.ref 0), some (.int a1), some (.int a2), some (.int a3)] [.int 0] s
                    refine q_if_ne (pc' := 47) ja_C_tell_44 rfl (fun h => absurd ((by decide : (0 : Int32) = 0)) h) (fun _ => ?_)
                    refine q_bipush (pc' := 49) ja_C_tell_47 rfl (-2) (by decide) ?_
                    exact q_iret ja_C_tell_49 rfl rfl (k6 h2 h4 h5 h7 h9 h10 h11 h13 h14)
                  · intro h15
                    refine q_goto ja_Sections_has_17 ?_
                    refine q_iconst (pc' := 29) ja_Sections_has_28 rfl 1 (by decide) ?_
                    refine q_goto ja_Sections_has_29 ?_
                    refine q_iret ja_Sections_has_33 rfl (by decide) ?_
                    show q_W _ _ _ _ 44 [some (.ref 0), some (.int a1), some (.int a2), some (.int a3)] [.int 1] s
                    refine q_if_ne (pc' := 47) ja_C_tell_44 rfl (fun _ => ?_) (fun h => absurd h ((by decide : ¬ (1 : Int32) = 0)))
                    refine q_aload_n (pc' := 51) ja_C_tell_50 rfl rfl ?_
                    refine q_getf (pc' := 54) (v := .ref 65) ja_C_tell_51 rfl (by decide) ⟨rfl, by decide⟩ rfl ?_
                    refine q_getf (pc' := 57) (v := .ref 66) ja_C_tell_54 rfl (by decide) ⟨rfl, by decide⟩ rfl ?_
                    refine q_virt (pc' := 60) (c := 66) (as := []) (r := []) ja_C_tell_57 rfl rfl rfl (by decide) ⟨rfl, by decide⟩ ?_
                    refine q_in (M := jm_Motions_isFull) rfl (Nat.le_of_ble_eq_true rfl) (ls := [some (.ref 66)]) rfl ?_
                    refine q_aload_n (pc' := 1) ja_Motions_isFull_0 rfl rfl ?_
                    refine q_getf (pc' := 4) (v := .int (s 66 0)) ja_Motions_isFull_1 rfl (by decide) ⟨rfl, by decide⟩ rfl ?_
                    refine q_aload_n (pc' := 5) ja_Motions_isFull_4 rfl rfl ?_
                    refine q_getf (pc' := 8) (v := .int (s 66 1)) ja_Motions_isFull_5 rfl (by decide) ⟨rfl, by decide⟩ rfl ?_
                    refine q_ic_lt (pc' := 11) ja_Motions_isFull_8 rfl ?_ ?_
                    · intro h16
                      refine q_iconst (pc' := 16) ja_Motions_isFull_15 rfl 0 (by decide) ?_
                      refine q_iret ja_Motions_isFull_16 rfl (by decide) ?_
                      show q_W _ _ _ _ 60 [some (.ref 0), some (.int a1), some (.int a2), some (.int a3)] [.int 0] s
                      refine q_if_eq (pc' := 63) ja_C_tell_60 rfl (fun _ => ?_) (fun h => absurd ((by decide : (0 : Int32) = 0)) h)
                      refine q_aload_n (pc' := 67) ja_C_tell_66 rfl rfl ?_
                      refine q_getf (pc' := 70) (v := .ref 65) ja_C_tell_67 rfl (by decide) ⟨rfl, by decide⟩ rfl ?_
                      refine q_getf (pc' := 73) (v := .ref 66) ja_C_tell_70 rfl (by decide) ⟨rfl, by decide⟩ rfl ?_
                      refine q_iload_n (pc' := 74) ja_C_tell_73 rfl rfl ?_
                      refine q_iconst (pc' := 75) ja_C_tell_74 rfl (-1) (by decide) ?_
                      refine q_iload_n (pc' := 76) ja_C_tell_75 rfl rfl ?_
                      refine q_iload_n (pc' := 77) ja_C_tell_76 rfl rfl ?_
                      refine q_stat (pc' := 80) (as := [.int a1]) (r := [.int a2, .int (-1), .int a1, .ref 66]) ja_C_tell_77 rfl (by decide) rfl rfl ?_
                      refine q_in (M := jm_C_takesWord) rfl (Nat.le_of_ble_eq_true rfl) (ls := [some (.int a1)]) rfl ?_
                      refine q_iload_n (pc' := 1) ja_C_takesWord_0 rfl rfl ?_
                      refine q_iconst (pc' := 2) ja_C_takesWord_1 rfl 2 (by decide) ?_
                      refine q_ic_eq (pc' := 5) ja_C_takesWord_2 rfl (fun _ => ?_) (fun h => absurd (h5) h)
                      refine q_iconst (pc' := 11) ja_C_takesWord_10 rfl 1 (by decide) ?_
                      refine q_goto ja_C_takesWord_11 ?_
                      refine q_iret ja_C_takesWord_15 rfl (by decide) ?_
                      show q_W _ _ _ _ 80 [some (.ref 0), some (.int a1), some (.int a2), some (.int a3)] [.int 1, .int a2, .int (-1), .int a1, .ref 66] s
                      refine q_if_eq (pc' := 83) ja_C_tell_80 rfl (fun h => absurd h ((by decide : ¬ (1 : Int32) = 0))) (fun _ => ?_)
                      refine q_iload_n (pc' := 84) ja_C_tell_83 rfl rfl ?_
                      refine q_goto ja_C_tell_84 ?_
                      refine q_virt (pc' := 91) (c := 66) (as := [.int a1, .int (-1), .int a2, .int a3]) (r := []) ja_C_tell_88 rfl rfl rfl (by decide) ⟨rfl, by decide⟩ ?_
                      refine q_in (M := jm_Motions_push) rfl (Nat.le_of_ble_eq_true rfl) (ls := [some (.ref 66), some (.int a1), some (.int (-1)), some (.int a2), some (.int a3)]) rfl ?_
                      refine q_aload_n (pc' := 1) ja_Motions_push_0 rfl rfl ?_
                      refine q_getf (pc' := 4) (v := .int (s 66 0)) ja_Motions_push_1 rfl (by decide) ⟨rfl, by decide⟩ rfl ?_
                      refine q_if_lt (pc' := 7) ja_Motions_push_4 rfl ?_ ?_
                      · intro h17
                        refine q_vret ja_Motions_push_14 rfl ?_
                        show q_W _ _ _ _ 91 [some (.ref 0), some (.int a1), some (.int a2), some (.int a3)] [] s
                        refine q_aload_n (pc' := 92) ja_C_tell_91 rfl rfl ?_
                        refine q_getf (pc' := 95) (v := .ref 65) ja_C_tell_92 rfl (by decide) ⟨rfl, by decide⟩ rfl ?_
                        refine q_getf (pc' := 98) (v := .ref 66) ja_C_tell_95 rfl (by decide) ⟨rfl, by decide⟩ rfl ?_
                        refine q_getf (pc' := 101) (v := .int (s 66 0)) ja_C_tell_98 rfl (by decide) ⟨rfl, by decide⟩ rfl ?_
                        exact q_iret ja_C_tell_101 rfl rfl (k7 h2 h4 h5 h7 h9 h10 h11 h13 h15 h16 h17)
                      · intro h18
                        refine q_aload_n (pc' := 8) ja_Motions_push_7 rfl rfl ?_
                        refine q_virt (pc' := 11) (c := 66) (as := []) (r := []) ja_Motions_push_8 rfl rfl rfl (by decide) ⟨rfl, by decide⟩ ?_
                        refine q_in (M := jm_Motions_isFull) rfl (Nat.le_of_ble_eq_true rfl) (ls := [some (.ref 66)]) rfl ?_
                        refine q_aload_n (pc' := 1) ja_Motions_isFull_0 rfl rfl ?_
                        refine q_getf (pc' := 4) (v := .int (s 66 0)) ja_Motions_isFull_1 rfl (by decide) ⟨rfl, by decide⟩ rfl ?_
                        refine q_aload_n (pc' := 5) ja_Motions_isFull_4 rfl rfl ?_
                        refine q_getf (pc' := 8) (v := .int (s 66 1)) ja_Motions_isFull_5 rfl (by decide) ⟨rfl, by decide⟩ rfl ?_
                        refine q_ic_lt (pc' := 11) ja_Motions_isFull_8 rfl (fun _ => ?_) (fun h => absurd (h16) h)
                        refine q_iconst (pc' := 16) ja_Motions_isFull_15 rfl 0 (by decide) ?_
                        refine q_iret ja_Motions_isFull_16 rfl (by decide) ?_
                        show q_W _ _ _ _ 11 [some (.ref 66), some (.int a1), some (.int (-1)), some (.int a2), some (.int a3)] [.int 0] s
                        refine q_if_eq (pc' := 14) ja_Motions_push_11 rfl (fun _ => ?_) (fun h => absurd ((by decide : (0 : Int32) = 0)) h)
                        refine q_aload_n (pc' := 16) ja_Motions_push_15 rfl rfl ?_
                        refine q_getf (pc' := 19) (v := .ref 67) ja_Motions_push_16 rfl (by decide) ⟨rfl, by decide⟩ rfl ?_
                        refine q_aload_n (pc' := 20) ja_Motions_push_19 rfl rfl ?_
                        refine q_getf (pc' := 23) (v := .int (s 66 0)) ja_Motions_push_20 rfl (by decide) ⟨rfl, by decide⟩ rfl ?_
                        refine q_iload_n (pc' := 24) ja_Motions_push_23 rfl rfl ?_
                        refine q_iast (pc' := 25) ja_Motions_push_24 rfl (by decide) (l := 5) rfl (k8 h2 h4 h5 h7 h9 h10 h11 h13 h15 h16 h18) ?_
                        intro s1 e1
                        refine q_aload_n (pc' := 26) ja_Motions_push_25 rfl rfl ?_
                        refine q_getf (pc' := 29) (v := .ref 68) ja_Motions_push_26 rfl (by decide) ⟨rfl, by decide⟩ rfl ?_
                        refine q_aload_n (pc' := 30) ja_Motions_push_29 rfl rfl ?_
                        refine q_getf (pc' := 33) (v := .int (s1 66 0)) ja_Motions_push_30 rfl (by decide) ⟨rfl, by decide⟩ rfl ?_
                        refine q_iload_n (pc' := 34) ja_Motions_push_33 rfl rfl ?_
                        refine q_iast (pc' := 35) ja_Motions_push_34 rfl (by decide) (l := 5) rfl (k9 h2 h4 h5 h7 h9 h10 h11 h13 h15 h16 h18 s1 e1) ?_
                        intro s2 e2
                        refine q_aload_n (pc' := 36) ja_Motions_push_35 rfl rfl ?_
                        refine q_getf (pc' := 39) (v := .ref 69) ja_Motions_push_36 rfl (by decide) ⟨rfl, by decide⟩ rfl ?_
                        refine q_aload_n (pc' := 40) ja_Motions_push_39 rfl rfl ?_
                        refine q_getf (pc' := 43) (v := .int (s2 66 0)) ja_Motions_push_40 rfl (by decide) ⟨rfl, by decide⟩ rfl ?_
                        refine q_iload_n (pc' := 44) ja_Motions_push_43 rfl rfl ?_
                        refine q_iast (pc' := 45) ja_Motions_push_44 rfl (by decide) (l := 5) rfl (k10 h2 h4 h5 h7 h9 h10 h11 h13 h15 h16 h18 s1 e1 s2 e2) ?_
                        intro s3 e3
                        refine q_aload_n (pc' := 46) ja_Motions_push_45 rfl rfl ?_
                        refine q_getf (pc' := 49) (v := .ref 70) ja_Motions_push_46 rfl (by decide) ⟨rfl, by decide⟩ rfl ?_
                        refine q_aload_n (pc' := 50) ja_Motions_push_49 rfl rfl ?_
                        refine q_getf (pc' := 53) (v := .int (s3 66 0)) ja_Motions_push_50 rfl (by decide) ⟨rfl, by decide⟩ rfl ?_
                        refine q_iload (pc' := 55) ja_Motions_push_53 rfl rfl ?_
                        refine q_iast (pc' := 56) ja_Motions_push_55 rfl (by decide) (l := 5) rfl (k11 h2 h4 h5 h7 h9 h10 h11 h13 h15 h16 h18 s1 e1 s2 e2 s3 e3) ?_
                        intro s4 e4
                        refine q_aload_n (pc' := 57) ja_Motions_push_56 rfl rfl ?_
                        refine q_dup (pc' := 58) ja_Motions_push_57 rfl rfl ?_
                        refine q_getf (pc' := 61) (v := .int (s4 66 0)) ja_Motions_push_58 rfl (by decide) ⟨rfl, by decide⟩ rfl ?_
                        refine q_iconst (pc' := 62) ja_Motions_push_61 rfl 1 (by decide) ?_
                        refine q_iadd (pc' := 63) ja_Motions_push_62 rfl ?_
                        refine q_putf (pc' := 66) ja_Motions_push_63 rfl (by decide) rfl rfl rfl ?_
                        intro s5 e5
                        refine q_vret ja_Motions_push_66 rfl ?_
                        show q_W _ _ _ _ 91 [some (.ref 0), some (.int a1), some (.int a2), some (.int a3)] [] s5
                        refine q_aload_n (pc' := 92) ja_C_tell_91 rfl rfl ?_
                        refine q_getf (pc' := 95) (v := .ref 65) ja_C_tell_92 rfl (by decide) ⟨rfl, by decide⟩ rfl ?_
                        refine q_getf (pc' := 98) (v := .ref 66) ja_C_tell_95 rfl (by decide) ⟨rfl, by decide⟩ rfl ?_
                        refine q_getf (pc' := 101) (v := .int (s5 66 0)) ja_C_tell_98 rfl (by decide) ⟨rfl, by decide⟩ rfl ?_
                        exact q_iret ja_C_tell_101 rfl rfl (k12 h2 h4 h5 h7 h9 h10 h11 h13 h15 h16 h18 s1 e1 s2 e2 s3 e3 s4 e4 s5 e5)
                    · intro h19
                      refine q_iconst (pc' := 12) ja_Motions_isFull_11 rfl 1 (by decide) ?_
                      refine q_goto ja_Motions_isFull_12 ?_
                      refine q_iret ja_Motions_isFull_16 rfl (by decide) ?_
                      show q_W _ _ _ _ 60 [some (.ref 0), some (.int a1), some (.int a2), some (.int a3)] [.int 1] s
                      refine q_if_eq (pc' := 63) ja_C_tell_60 rfl (fun h => absurd h ((by decide : ¬ (1 : Int32) = 0))) (fun _ => ?_)
                      refine q_bipush (pc' := 65) ja_C_tell_63 rfl (-4) (by decide) ?_
                      exact q_iret ja_C_tell_65 rfl rfl (k13 h2 h4 h5 h7 h9 h10 h11 h13 h15 h19)
              · intro h20
                refine q_iload_n (pc' := 5) ja_C_isBill_4 rfl rfl ?_
                refine q_aload_n (pc' := 6) ja_C_isBill_5 rfl rfl ?_
                refine q_getf (pc' := 9) (v := .int (s 0 3)) ja_C_isBill_6 rfl (by decide) ⟨rfl, by decide⟩ rfl ?_
                refine q_ic_ge (pc' := 12) ja_C_isBill_9 rfl ?_ ?_
                · intro h21
                  refine q_iconst (pc' := 26) ja_C_isBill_25 rfl 0 (by decide) ?_
                  refine q_iret ja_C_isBill_26 rfl (by decide) ?_
                  show q_W _ _ _ _ 8 [some (.ref 0)] [.int 0] s
                  refine q_if_eq (pc' := 11) ja_C_floor_8 rfl (fun _ => ?_) (fun h => absurd ((by decide : (0 : Int32) = 0)) h)
                  refine q_aload_n (pc' := 27) ja_C_floor_26 rfl rfl ?_
                  refine q_getf (pc' := 30) (v := .ref 58) ja_C_floor_27 rfl (by decide) ⟨rfl, by decide⟩ rfl ?_
                  refine q_aret ja_C_floor_30 rfl ?_
                  show q_W _ _ _ _ 39 [some (.ref 0), some (.int a1), some (.int a2), some (.int a3)] [.ref 58] s
                  refine q_iload_n (pc' := 40) ja_C_tell_39 rfl rfl ?_
                  refine q_iload_n (pc' := 41) ja_C_tell_40 rfl rfl ?_
                  refine q_virt (pc' := 44) (c := 58) (as := [.int a1, .int a2]) (r := []) ja_C_tell_41 rfl rfl rfl (by decide) ⟨rfl, by decide⟩ ?_
                  refine q_in (M := jm_Sections_has) rfl (Nat.le_of_ble_eq_true rfl) (ls := [some (.ref 58), some (.int a1), some (.int a2)]) rfl ?_
                  refine q_iload_n (pc' := 1) ja_Sections_has_0 rfl rfl ?_
                  refine q_if_lt (pc' := 4) ja_Sections_has_1 rfl ?_ ?_
                  · intro h22
                    refine q_iconst (pc' := 33) ja_Sections_has_32 rfl 0 (by decide) ?_
                    refine q_iret ja_Sections_has_33 rfl (by decide) ?_
                    show q_W _ _ _ _ 44 [some (.ref 0), some (.int a1), some (.int a2), some (.int a3)] [.int 0] s
                    refine q_if_ne (pc' := 47) ja_C_tell_44 rfl (fun h => absurd ((by decide : (0 : Int32) = 0)) h) (fun _ => ?_)
                    refine q_bipush (pc' := 49) ja_C_tell_47 rfl (-2) (by decide) ?_
                    exact q_iret ja_C_tell_49 rfl rfl (k14 h2 h4 h5 h7 h9 h10 h20 h21 h22)
                  · intro h23
                    refine q_iload_n (pc' := 5) ja_Sections_has_4 rfl rfl ?_
                    refine q_iconst (pc' := 6) ja_Sections_has_5 rfl 2 (by decide) ?_
                    refine q_ic_ne (pc' := 9) ja_Sections_has_6 rfl (fun h => absurd (h5) h) (fun _ => ?_)
                    refine q_iload_n (pc' := 10) ja_Sections_has_9 rfl rfl ?_
                    refine q_aload_n (pc' := 11) ja_Sections_has_10 rfl rfl ?_
                    refine q_getf (pc' := 14) (v := .int (s 58 0)) ja_Sections_has_11 rfl (by decide) ⟨rfl, by decide⟩ rfl ?_
                    refine q_ic_gt (pc' := 17) ja_Sections_has_14 rfl ?_ ?_
                    · intro h24
                      refine q_iconst (pc' := 33) ja_Sections_has_32 rfl 0 (by decide) ?_
                      refine q_iret ja_Sections_has_33 rfl (by decide) ?_
                      show q_W _ _ _ _ 44 [some (.ref 0), some (.int a1), some (.int a2), some (.int a3)] [.int 0] s
                      refine q_if_ne (pc' := 47) ja_C_tell_44 rfl (fun h => absurd ((by decide : (0 : Int32) = 0)) h) (fun _ => ?_)
                      refine q_bipush (pc' := 49) ja_C_tell_47 rfl (-2) (by decide) ?_
                      exact q_iret ja_C_tell_49 rfl rfl (k15 h2 h4 h5 h7 h9 h10 h20 h21 h23 h24)
                    · intro h25
                      refine q_goto ja_Sections_has_17 ?_
                      refine q_iconst (pc' := 29) ja_Sections_has_28 rfl 1 (by decide) ?_
                      refine q_goto ja_Sections_has_29 ?_
                      refine q_iret ja_Sections_has_33 rfl (by decide) ?_
                      show q_W _ _ _ _ 44 [some (.ref 0), some (.int a1), some (.int a2), some (.int a3)] [.int 1] s
                      refine q_if_ne (pc' := 47) ja_C_tell_44 rfl (fun _ => ?_) (fun h => absurd h ((by decide : ¬ (1 : Int32) = 0)))
                      refine q_aload_n (pc' := 51) ja_C_tell_50 rfl rfl ?_
                      refine q_getf (pc' := 54) (v := .ref 65) ja_C_tell_51 rfl (by decide) ⟨rfl, by decide⟩ rfl ?_
                      refine q_getf (pc' := 57) (v := .ref 66) ja_C_tell_54 rfl (by decide) ⟨rfl, by decide⟩ rfl ?_
                      refine q_virt (pc' := 60) (c := 66) (as := []) (r := []) ja_C_tell_57 rfl rfl rfl (by decide) ⟨rfl, by decide⟩ ?_
                      refine q_in (M := jm_Motions_isFull) rfl (Nat.le_of_ble_eq_true rfl) (ls := [some (.ref 66)]) rfl ?_
                      refine q_aload_n (pc' := 1) ja_Motions_isFull_0 rfl rfl ?_
                      refine q_getf (pc' := 4) (v := .int (s 66 0)) ja_Motions_isFull_1 rfl (by decide) ⟨rfl, by decide⟩ rfl ?_
                      refine q_aload_n (pc' := 5) ja_Motions_isFull_4 rfl rfl ?_
                      refine q_getf (pc' := 8) (v := .int (s 66 1)) ja_Motions_isFull_5 rfl (by decide) ⟨rfl, by decide⟩ rfl ?_
                      refine q_ic_lt (pc' := 11) ja_Motions_isFull_8 rfl ?_ ?_
                      · intro h26
                        refine q_iconst (pc' := 16) ja_Motions_isFull_15 rfl 0 (by decide) ?_
                        refine q_iret ja_Motions_isFull_16 rfl (by decide) ?_
                        show q_W _ _ _ _ 60 [some (.ref 0), some (.int a1), some (.int a2), some (.int a3)] [.int 0] s
                        refine q_if_eq (pc' := 63) ja_C_tell_60 rfl (fun _ => ?_) (fun h => absurd ((by decide : (0 : Int32) = 0)) h)
                        refine q_aload_n (pc' := 67) ja_C_tell_66 rfl rfl ?_
                        refine q_getf (pc' := 70) (v := .ref 65) ja_C_tell_67 rfl (by decide) ⟨rfl, by decide⟩ rfl ?_
                        refine q_getf (pc' := 73) (v := .ref 66) ja_C_tell_70 rfl (by decide) ⟨rfl, by decide⟩ rfl ?_
                        refine q_iload_n (pc' := 74) ja_C_tell_73 rfl rfl ?_
                        refine q_iconst (pc' := 75) ja_C_tell_74 rfl (-1) (by decide) ?_
                        refine q_iload_n (pc' := 76) ja_C_tell_75 rfl rfl ?_
                        refine q_iload_n (pc' := 77) ja_C_tell_76 rfl rfl ?_
                        refine q_stat (pc' := 80) (as := [.int a1]) (r := [.int a2, .int (-1), .int a1, .ref 66]) ja_C_tell_77 rfl (by decide) rfl rfl ?_
                        refine q_in (M := jm_C_takesWord) rfl (Nat.le_of_ble_eq_true rfl) (ls := [some (.int a1)]) rfl ?_
                        refine q_iload_n (pc' := 1) ja_C_takesWord_0 rfl rfl ?_
                        refine q_iconst (pc' := 2) ja_C_takesWord_1 rfl 2 (by decide) ?_
                        refine q_ic_eq (pc' := 5) ja_C_takesWord_2 rfl (fun _ => ?_) (fun h => absurd (h5) h)
                        refine q_iconst (pc' := 11) ja_C_takesWord_10 rfl 1 (by decide) ?_
                        refine q_goto ja_C_takesWord_11 ?_
                        refine q_iret ja_C_takesWord_15 rfl (by decide) ?_
                        show q_W _ _ _ _ 80 [some (.ref 0), some (.int a1), some (.int a2), some (.int a3)] [.int 1, .int a2, .int (-1), .int a1, .ref 66] s
                        refine q_if_eq (pc' := 83) ja_C_tell_80 rfl (fun h => absurd h ((by decide : ¬ (1 : Int32) = 0))) (fun _ => ?_)
                        refine q_iload_n (pc' := 84) ja_C_tell_83 rfl rfl ?_
                        refine q_goto ja_C_tell_84 ?_
                        refine q_virt (pc' := 91) (c := 66) (as := [.int a1, .int (-1), .int a2, .int a3]) (r := []) ja_C_tell_88 rfl rfl rfl (by decide) ⟨rfl, by decide⟩ ?_
                        refine q_in (M := jm_Motions_push) rfl (Nat.le_of_ble_eq_true rfl) (ls := [some (.ref 66), some (.int a1), some (.int (-1)), some (.int a2), some (.int a3)]) rfl ?_
                        refine q_aload_n (pc' := 1) ja_Motions_push_0 rfl rfl ?_
                        refine q_getf (pc' := 4) (v := .int (s 66 0)) ja_Motions_push_1 rfl (by decide) ⟨rfl, by decide⟩ rfl ?_
                        refine q_if_lt (pc' := 7) ja_Motions_push_4 rfl ?_ ?_
                        · intro h27
                          refine q_vret ja_Motions_push_14 rfl ?_
                          show q_W _ _ _ _ 91 [some (.ref 0), some (.int a1), some (.int a2), some (.int a3)] [] s
                          refine q_aload_n (pc' := 92) ja_C_tell_91 rfl rfl ?_
                          refine q_getf (pc' := 95) (v := .ref 65) ja_C_tell_92 rfl (by decide) ⟨rfl, by decide⟩ rfl ?_
                          refine q_getf (pc' := 98) (v := .ref 66) ja_C_tell_95 rfl (by decide) ⟨rfl, by decide⟩ rfl ?_
                          refine q_getf (pc' := 101) (v := .int (s 66 0)) ja_C_tell_98 rfl (by decide) ⟨rfl, by decide⟩ rfl ?_
                          exact q_iret ja_C_tell_101 rfl rfl (k16 h2 h4 h5 h7 h9 h10 h20 h21 h23 h25 h26 h27)
                        · intro h28
                          refine q_aload_n (pc' := 8) ja_Motions_push_7 rfl rfl ?_
                          refine q_virt (pc' := 11) (c := 66) (as := []) (r := []) ja_Motions_push_8 rfl rfl rfl (by decide) ⟨rfl, by decide⟩ ?_
                          refine q_in (M := jm_Motions_isFull) rfl (Nat.le_of_ble_eq_true rfl) (ls := [some (.ref 66)]) rfl ?_
                          refine q_aload_n (pc' := 1) ja_Motions_isFull_0 rfl rfl ?_
                          refine q_getf (pc' := 4) (v := .int (s 66 0)) ja_Motions_isFull_1 rfl (by decide) ⟨rfl, by decide⟩ rfl ?_
                          refine q_aload_n (pc' := 5) ja_Motions_isFull_4 rfl rfl ?_
                          refine q_getf (pc' := 8) (v := .int (s 66 1)) ja_Motions_isFull_5 rfl (by decide) ⟨rfl, by decide⟩ rfl ?_
                          refine q_ic_lt (pc' := 11) ja_Motions_isFull_8 rfl (fun _ => ?_) (fun h => absurd (h26) h)
                          refine q_iconst (pc' := 16) ja_Motions_isFull_15 rfl 0 (by decide) ?_
                          refine q_iret ja_Motions_isFull_16 rfl (by decide) ?_
                          show q_W _ _ _ _ 11 [some (.ref 66), some (.int a1), some (.int (-1)), some (.int a2), some (.int a3)] [.int 0] s
                          refine q_if_eq (pc' := 14) ja_Motions_push_11 rfl (fun _ => ?_) (fun h => absurd ((by decide : (0 : Int32) = 0)) h)
                          refine q_aload_n (pc' := 16) ja_Motions_push_15 rfl rfl ?_
                          refine q_getf (pc' := 19) (v := .ref 67) ja_Motions_push_16 rfl (by decide) ⟨rfl, by decide⟩ rfl ?_
                          refine q_aload_n (pc' := 20) ja_Motions_push_19 rfl rfl ?_
                          refine q_getf (pc' := 23) (v := .int (s 66 0)) ja_Motions_push_20 rfl (by decide) ⟨rfl, by decide⟩ rfl ?_
                          refine q_iload_n (pc' := 24) ja_Motions_push_23 rfl rfl ?_
                          refine q_iast (pc' := 25) ja_Motions_push_24 rfl (by decide) (l := 5) rfl (k17 h2 h4 h5 h7 h9 h10 h20 h21 h23 h25 h26 h28) ?_
                          intro s6 e6
                          refine q_aload_n (pc' := 26) ja_Motions_push_25 rfl rfl ?_
                          refine q_getf (pc' := 29) (v := .ref 68) ja_Motions_push_26 rfl (by decide) ⟨rfl, by decide⟩ rfl ?_
                          refine q_aload_n (pc' := 30) ja_Motions_push_29 rfl rfl ?_
                          refine q_getf (pc' := 33) (v := .int (s6 66 0)) ja_Motions_push_30 rfl (by decide) ⟨rfl, by decide⟩ rfl ?_
                          refine q_iload_n (pc' := 34) ja_Motions_push_33 rfl rfl ?_
                          refine q_iast (pc' := 35) ja_Motions_push_34 rfl (by decide) (l := 5) rfl (k18 h2 h4 h5 h7 h9 h10 h20 h21 h23 h25 h26 h28 s6 e6) ?_
                          intro s7 e7
                          refine q_aload_n (pc' := 36) ja_Motions_push_35 rfl rfl ?_
                          refine q_getf (pc' := 39) (v := .ref 69) ja_Motions_push_36 rfl (by decide) ⟨rfl, by decide⟩ rfl ?_
                          refine q_aload_n (pc' := 40) ja_Motions_push_39 rfl rfl ?_
                          refine q_getf (pc' := 43) (v := .int (s7 66 0)) ja_Motions_push_40 rfl (by decide) ⟨rfl, by decide⟩ rfl ?_
                          refine q_iload_n (pc' := 44) ja_Motions_push_43 rfl rfl ?_
                          refine q_iast (pc' := 45) ja_Motions_push_44 rfl (by decide) (l := 5) rfl (k19 h2 h4 h5 h7 h9 h10 h20 h21 h23 h25 h26 h28 s6 e6 s7 e7) ?_
                          intro s8 e8
                          refine q_aload_n (pc' := 46) ja_Motions_push_45 rfl rfl ?_
                          refine q_getf (pc' := 49) (v := .ref 70) ja_Motions_push_46 rfl (by decide) ⟨rfl, by decide⟩ rfl ?_
                          refine q_aload_n (pc' := 50) ja_Motions_push_49 rfl rfl ?_
                          refine q_getf (pc' := 53) (v := .int (s8 66 0)) ja_Motions_push_50 rfl (by decide) ⟨rfl, by decide⟩ rfl ?_
                          refine q_iload (pc' := 55) ja_Motions_push_53 rfl rfl ?_
                          refine q_iast (pc' := 56) ja_Motions_push_55 rfl (by decide) (l := 5) rfl (k20 h2 h4 h5 h7 h9 h10 h20 h21 h23 h25 h26 h28 s6 e6 s7 e7 s8 e8) ?_
                          intro s9 e9
                          refine q_aload_n (pc' := 57) ja_Motions_push_56 rfl rfl ?_
                          refine q_dup (pc' := 58) ja_Motions_push_57 rfl rfl ?_
                          refine q_getf (pc' := 61) (v := .int (s9 66 0)) ja_Motions_push_58 rfl (by decide) ⟨rfl, by decide⟩ rfl ?_
                          refine q_iconst (pc' := 62) ja_Motions_push_61 rfl 1 (by decide) ?_
                          refine q_iadd (pc' := 63) ja_Motions_push_62 rfl ?_
                          refine q_putf (pc' := 66) ja_Motions_push_63 rfl (by decide) rfl rfl rfl ?_
                          intro s10 e10
                          refine q_vret ja_Motions_push_66 rfl ?_
                          show q_W _ _ _ _ 91 [some (.ref 0), some (.int a1), some (.int a2), some (.int a3)] [] s10
                          refine q_aload_n (pc' := 92) ja_C_tell_91 rfl rfl ?_
                          refine q_getf (pc' := 95) (v := .ref 65) ja_C_tell_92 rfl (by decide) ⟨rfl, by decide⟩ rfl ?_
                          refine q_getf (pc' := 98) (v := .ref 66) ja_C_tell_95 rfl (by decide) ⟨rfl, by decide⟩ rfl ?_
                          refine q_getf (pc' := 101) (v := .int (s10 66 0)) ja_C_tell_98 rfl (by decide) ⟨rfl, by decide⟩ rfl ?_
                          exact q_iret ja_C_tell_101 rfl rfl (k21 h2 h4 h5 h7 h9 h10 h20 h21 h23 h25 h26 h28 s6 e6 s7 e7 s8 e8 s9 e9 s10 e10)
                      · intro h29
                        refine q_iconst (pc' := 12) ja_Motions_isFull_11 rfl 1 (by decide) ?_
                        refine q_goto ja_Motions_isFull_12 ?_
                        refine q_iret ja_Motions_isFull_16 rfl (by decide) ?_
                        show q_W _ _ _ _ 60 [some (.ref 0), some (.int a1), some (.int a2), some (.int a3)] [.int 1] s
                        refine q_if_eq (pc' := 63) ja_C_tell_60 rfl (fun h => absurd h ((by decide : ¬ (1 : Int32) = 0))) (fun _ => ?_)
                        refine q_bipush (pc' := 65) ja_C_tell_63 rfl (-4) (by decide) ?_
                        exact q_iret ja_C_tell_65 rfl rfl (k22 h2 h4 h5 h7 h9 h10 h20 h21 h23 h25 h29)
                · intro h30
                  refine q_iload_n (pc' := 13) ja_C_isBill_12 rfl rfl ?_
                  refine q_aload_n (pc' := 14) ja_C_isBill_13 rfl rfl ?_
                  refine q_getf (pc' := 17) (v := .ref 32) ja_C_isBill_14 rfl (by decide) ⟨rfl, by decide⟩ rfl ?_
                  refine q_alen (pc' := 18) ja_C_isBill_17 rfl (by decide) (kd := 17) (l := 8) rfl (by decide) (v := 8) (by decide) ?_
                  refine q_ic_ge (pc' := 21) ja_C_isBill_18 rfl ?_ ?_
                  · intro h31
                    refine q_iconst (pc' := 26) ja_C_isBill_25 rfl 0 (by decide) ?_
                    refine q_iret ja_C_isBill_26 rfl (by decide) ?_
                    show q_W _ _ _ _ 8 [some (.ref 0)] [.int 0] s
                    refine q_if_eq (pc' := 11) ja_C_floor_8 rfl (fun _ => ?_) (fun h => absurd ((by decide : (0 : Int32) = 0)) h)
                    refine q_aload_n (pc' := 27) ja_C_floor_26 rfl rfl ?_
                    refine q_getf (pc' := 30) (v := .ref 58) ja_C_floor_27 rfl (by decide) ⟨rfl, by decide⟩ rfl ?_
                    refine q_aret ja_C_floor_30 rfl ?_
                    show q_W _ _ _ _ 39 [some (.ref 0), some (.int a1), some (.int a2), some (.int a3)] [.ref 58] s
                    refine q_iload_n (pc' := 40) ja_C_tell_39 rfl rfl ?_
                    refine q_iload_n (pc' := 41) ja_C_tell_40 rfl rfl ?_
                    refine q_virt (pc' := 44) (c := 58) (as := [.int a1, .int a2]) (r := []) ja_C_tell_41 rfl rfl rfl (by decide) ⟨rfl, by decide⟩ ?_
                    refine q_in (M := jm_Sections_has) rfl (Nat.le_of_ble_eq_true rfl) (ls := [some (.ref 58), some (.int a1), some (.int a2)]) rfl ?_
                    refine q_iload_n (pc' := 1) ja_Sections_has_0 rfl rfl ?_
                    refine q_if_lt (pc' := 4) ja_Sections_has_1 rfl ?_ ?_
                    · intro h32
                      refine q_iconst (pc' := 33) ja_Sections_has_32 rfl 0 (by decide) ?_
                      refine q_iret ja_Sections_has_33 rfl (by decide) ?_
                      show q_W _ _ _ _ 44 [some (.ref 0), some (.int a1), some (.int a2), some (.int a3)] [.int 0] s
                      refine q_if_ne (pc' := 47) ja_C_tell_44 rfl (fun h => absurd ((by decide : (0 : Int32) = 0)) h) (fun _ => ?_)
                      refine q_bipush (pc' := 49) ja_C_tell_47 rfl (-2) (by decide) ?_
                      exact q_iret ja_C_tell_49 rfl rfl (k23 h2 h4 h5 h7 h9 h10 h20 h30 h31 h32)
                    · intro h33
                      refine q_iload_n (pc' := 5) ja_Sections_has_4 rfl rfl ?_
                      refine q_iconst (pc' := 6) ja_Sections_has_5 rfl 2 (by decide) ?_
                      refine q_ic_ne (pc' := 9) ja_Sections_has_6 rfl (fun h => absurd (h5) h) (fun _ => ?_)
                      refine q_iload_n (pc' := 10) ja_Sections_has_9 rfl rfl ?_
                      refine q_aload_n (pc' := 11) ja_Sections_has_10 rfl rfl ?_
                      refine q_getf (pc' := 14) (v := .int (s 58 0)) ja_Sections_has_11 rfl (by decide) ⟨rfl, by decide⟩ rfl ?_
                      refine q_ic_gt (pc' := 17) ja_Sections_has_14 rfl ?_ ?_
                      · intro h34
                        refine q_iconst (pc' := 33) ja_Sections_has_32 rfl 0 (by decide) ?_
                        refine q_iret ja_Sections_has_33 rfl (by decide) ?_
                        show q_W _ _ _ _ 44 [some (.ref 0), some (.int a1), some (.int a2), some (.int a3)] [.int 0] s
                        refine q_if_ne (pc' := 47) ja_C_tell_44 rfl (fun h => absurd ((by decide : (0 : Int32) = 0)) h) (fun _ => ?_)
                        refine q_bipush (pc' := 49) ja_C_tell_47 rfl (-2) (by decide) ?_
                        exact q_iret ja_C_tell_49 rfl rfl (k24 h2 h4 h5 h7 h9 h10 h20 h30 h31 h33 h34)
                      · intro h35
                        refine q_goto ja_Sections_has_17 ?_
                        refine q_iconst (pc' := 29) ja_Sections_has_28 rfl 1 (by decide) ?_
                        refine q_goto ja_Sections_has_29 ?_
                        refine q_iret ja_Sections_has_33 rfl (by decide) ?_
                        show q_W _ _ _ _ 44 [some (.ref 0), some (.int a1), some (.int a2), some (.int a3)] [.int 1] s
                        refine q_if_ne (pc' := 47) ja_C_tell_44 rfl (fun _ => ?_) (fun h => absurd h ((by decide : ¬ (1 : Int32) = 0)))
                        refine q_aload_n (pc' := 51) ja_C_tell_50 rfl rfl ?_
                        refine q_getf (pc' := 54) (v := .ref 65) ja_C_tell_51 rfl (by decide) ⟨rfl, by decide⟩ rfl ?_
                        refine q_getf (pc' := 57) (v := .ref 66) ja_C_tell_54 rfl (by decide) ⟨rfl, by decide⟩ rfl ?_
                        refine q_virt (pc' := 60) (c := 66) (as := []) (r := []) ja_C_tell_57 rfl rfl rfl (by decide) ⟨rfl, by decide⟩ ?_
                        refine q_in (M := jm_Motions_isFull) rfl (Nat.le_of_ble_eq_true rfl) (ls := [some (.ref 66)]) rfl ?_
                        refine q_aload_n (pc' := 1) ja_Motions_isFull_0 rfl rfl ?_
                        refine q_getf (pc' := 4) (v := .int (s 66 0)) ja_Motions_isFull_1 rfl (by decide) ⟨rfl, by decide⟩ rfl ?_
                        refine q_aload_n (pc' := 5) ja_Motions_isFull_4 rfl rfl ?_
                        refine q_getf (pc' := 8) (v := .int (s 66 1)) ja_Motions_isFull_5 rfl (by decide) ⟨rfl, by decide⟩ rfl ?_
                        refine q_ic_lt (pc' := 11) ja_Motions_isFull_8 rfl ?_ ?_
                        · intro h36
                          refine q_iconst (pc' := 16) ja_Motions_isFull_15 rfl 0 (by decide) ?_
                          refine q_iret ja_Motions_isFull_16 rfl (by decide) ?_
                          show q_W _ _ _ _ 60 [some (.ref 0), some (.int a1), some (.int a2), some (.int a3)] [.int 0] s
                          refine q_if_eq (pc' := 63) ja_C_tell_60 rfl (fun _ => ?_) (fun h => absurd ((by decide : (0 : Int32) = 0)) h)
                          refine q_aload_n (pc' := 67) ja_C_tell_66 rfl rfl ?_
                          refine q_getf (pc' := 70) (v := .ref 65) ja_C_tell_67 rfl (by decide) ⟨rfl, by decide⟩ rfl ?_
                          refine q_getf (pc' := 73) (v := .ref 66) ja_C_tell_70 rfl (by decide) ⟨rfl, by decide⟩ rfl ?_
                          refine q_iload_n (pc' := 74) ja_C_tell_73 rfl rfl ?_
                          refine q_iconst (pc' := 75) ja_C_tell_74 rfl (-1) (by decide) ?_
                          refine q_iload_n (pc' := 76) ja_C_tell_75 rfl rfl ?_
                          refine q_iload_n (pc' := 77) ja_C_tell_76 rfl rfl ?_
                          refine q_stat (pc' := 80) (as := [.int a1]) (r := [.int a2, .int (-1), .int a1, .ref 66]) ja_C_tell_77 rfl (by decide) rfl rfl ?_
                          refine q_in (M := jm_C_takesWord) rfl (Nat.le_of_ble_eq_true rfl) (ls := [some (.int a1)]) rfl ?_
                          refine q_iload_n (pc' := 1) ja_C_takesWord_0 rfl rfl ?_
                          refine q_iconst (pc' := 2) ja_C_takesWord_1 rfl 2 (by decide) ?_
                          refine q_ic_eq (pc' := 5) ja_C_takesWord_2 rfl (fun _ => ?_) (fun h => absurd (h5) h)
                          refine q_iconst (pc' := 11) ja_C_takesWord_10 rfl 1 (by decide) ?_
                          refine q_goto ja_C_takesWord_11 ?_
                          refine q_iret ja_C_takesWord_15 rfl (by decide) ?_
                          show q_W _ _ _ _ 80 [some (.ref 0), some (.int a1), some (.int a2), some (.int a3)] [.int 1, .int a2, .int (-1), .int a1, .ref 66] s
                          refine q_if_eq (pc' := 83) ja_C_tell_80 rfl (fun h => absurd h ((by decide : ¬ (1 : Int32) = 0))) (fun _ => ?_)
                          refine q_iload_n (pc' := 84) ja_C_tell_83 rfl rfl ?_
                          refine q_goto ja_C_tell_84 ?_
                          refine q_virt (pc' := 91) (c := 66) (as := [.int a1, .int (-1), .int a2, .int a3]) (r := []) ja_C_tell_88 rfl rfl rfl (by decide) ⟨rfl, by decide⟩ ?_
                          refine q_in (M := jm_Motions_push) rfl (Nat.le_of_ble_eq_true rfl) (ls := [some (.ref 66), some (.int a1), some (.int (-1)), some (.int a2), some (.int a3)]) rfl ?_
                          refine q_aload_n (pc' := 1) ja_Motions_push_0 rfl rfl ?_
                          refine q_getf (pc' := 4) (v := .int (s 66 0)) ja_Motions_push_1 rfl (by decide) ⟨rfl, by decide⟩ rfl ?_
                          refine q_if_lt (pc' := 7) ja_Motions_push_4 rfl ?_ ?_
                          · intro h37
                            refine q_vret ja_Motions_push_14 rfl ?_
                            show q_W _ _ _ _ 91 [some (.ref 0), some (.int a1), some (.int a2), some (.int a3)] [] s
                            refine q_aload_n (pc' := 92) ja_C_tell_91 rfl rfl ?_
                            refine q_getf (pc' := 95) (v := .ref 65) ja_C_tell_92 rfl (by decide) ⟨rfl, by decide⟩ rfl ?_
                            refine q_getf (pc' := 98) (v := .ref 66) ja_C_tell_95 rfl (by decide) ⟨rfl, by decide⟩ rfl ?_
                            refine q_getf (pc' := 101) (v := .int (s 66 0)) ja_C_tell_98 rfl (by decide) ⟨rfl, by decide⟩ rfl ?_
                            exact q_iret ja_C_tell_101 rfl rfl (k25 h2 h4 h5 h7 h9 h10 h20 h30 h31 h33 h35 h36 h37)
                          · intro h38
                            refine q_aload_n (pc' := 8) ja_Motions_push_7 rfl rfl ?_
                            refine q_virt (pc' := 11) (c := 66) (as := []) (r := []) ja_Motions_push_8 rfl rfl rfl (by decide) ⟨rfl, by decide⟩ ?_
                            refine q_in (M := jm_Motions_isFull) rfl (Nat.le_of_ble_eq_true rfl) (ls := [some (.ref 66)]) rfl ?_
                            refine q_aload_n (pc' := 1) ja_Motions_isFull_0 rfl rfl ?_
                            refine q_getf (pc' := 4) (v := .int (s 66 0)) ja_Motions_isFull_1 rfl (by decide) ⟨rfl, by decide⟩ rfl ?_
                            refine q_aload_n (pc' := 5) ja_Motions_isFull_4 rfl rfl ?_
                            refine q_getf (pc' := 8) (v := .int (s 66 1)) ja_Motions_isFull_5 rfl (by decide) ⟨rfl, by decide⟩ rfl ?_
                            refine q_ic_lt (pc' := 11) ja_Motions_isFull_8 rfl (fun _ => ?_) (fun h => absurd (h36) h)
                            refine q_iconst (pc' := 16) ja_Motions_isFull_15 rfl 0 (by decide) ?_
                            refine q_iret ja_Motions_isFull_16 rfl (by decide) ?_
                            show q_W _ _ _ _ 11 [some (.ref 66), some (.int a1), some (.int (-1)), some (.int a2), some (.int a3)] [.int 0] s
                            refine q_if_eq (pc' := 14) ja_Motions_push_11 rfl (fun _ => ?_) (fun h => absurd ((by decide : (0 : Int32) = 0)) h)
                            refine q_aload_n (pc' := 16) ja_Motions_push_15 rfl rfl ?_
                            refine q_getf (pc' := 19) (v := .ref 67) ja_Motions_push_16 rfl (by decide) ⟨rfl, by decide⟩ rfl ?_
                            refine q_aload_n (pc' := 20) ja_Motions_push_19 rfl rfl ?_
                            refine q_getf (pc' := 23) (v := .int (s 66 0)) ja_Motions_push_20 rfl (by decide) ⟨rfl, by decide⟩ rfl ?_
                            refine q_iload_n (pc' := 24) ja_Motions_push_23 rfl rfl ?_
                            refine q_iast (pc' := 25) ja_Motions_push_24 rfl (by decide) (l := 5) rfl (k26 h2 h4 h5 h7 h9 h10 h20 h30 h31 h33 h35 h36 h38) ?_
                            intro s11 e11
                            refine q_aload_n (pc' := 26) ja_Motions_push_25 rfl rfl ?_
                            refine q_getf (pc' := 29) (v := .ref 68) ja_Motions_push_26 rfl (by decide) ⟨rfl, by decide⟩ rfl ?_
                            refine q_aload_n (pc' := 30) ja_Motions_push_29 rfl rfl ?_
                            refine q_getf (pc' := 33) (v := .int (s11 66 0)) ja_Motions_push_30 rfl (by decide) ⟨rfl, by decide⟩ rfl ?_
                            refine q_iload_n (pc' := 34) ja_Motions_push_33 rfl rfl ?_
                            refine q_iast (pc' := 35) ja_Motions_push_34 rfl (by decide) (l := 5) rfl (k27 h2 h4 h5 h7 h9 h10 h20 h30 h31 h33 h35 h36 h38 s11 e11) ?_
                            intro s12 e12
                            refine q_aload_n (pc' := 36) ja_Motions_push_35 rfl rfl ?_
                            refine q_getf (pc' := 39) (v := .ref 69) ja_Motions_push_36 rfl (by decide) ⟨rfl, by decide⟩ rfl ?_
                            refine q_aload_n (pc' := 40) ja_Motions_push_39 rfl rfl ?_
                            refine q_getf (pc' := 43) (v := .int (s12 66 0)) ja_Motions_push_40 rfl (by decide) ⟨rfl, by decide⟩ rfl ?_
                            refine q_iload_n (pc' := 44) ja_Motions_push_43 rfl rfl ?_
                            refine q_iast (pc' := 45) ja_Motions_push_44 rfl (by decide) (l := 5) rfl (k28 h2 h4 h5 h7 h9 h10 h20 h30 h31 h33 h35 h36 h38 s11 e11 s12 e12) ?_
                            intro s13 e13
                            refine q_aload_n (pc' := 46) ja_Motions_push_45 rfl rfl ?_
                            refine q_getf (pc' := 49) (v := .ref 70) ja_Motions_push_46 rfl (by decide) ⟨rfl, by decide⟩ rfl ?_
                            refine q_aload_n (pc' := 50) ja_Motions_push_49 rfl rfl ?_
                            refine q_getf (pc' := 53) (v := .int (s13 66 0)) ja_Motions_push_50 rfl (by decide) ⟨rfl, by decide⟩ rfl ?_
                            refine q_iload (pc' := 55) ja_Motions_push_53 rfl rfl ?_
                            refine q_iast (pc' := 56) ja_Motions_push_55 rfl (by decide) (l := 5) rfl (k29 h2 h4 h5 h7 h9 h10 h20 h30 h31 h33 h35 h36 h38 s11 e11 s12 e12 s13 e13) ?_
                            intro s14 e14
                            refine q_aload_n (pc' := 57) ja_Motions_push_56 rfl rfl ?_
                            refine q_dup (pc' := 58) ja_Motions_push_57 rfl rfl ?_
                            refine q_getf (pc' := 61) (v := .int (s14 66 0)) ja_Motions_push_58 rfl (by decide) ⟨rfl, by decide⟩ rfl ?_
                            refine q_iconst (pc' := 62) ja_Motions_push_61 rfl 1 (by decide) ?_
                            refine q_iadd (pc' := 63) ja_Motions_push_62 rfl ?_
                            refine q_putf (pc' := 66) ja_Motions_push_63 rfl (by decide) rfl rfl rfl ?_
                            intro s15 e15
                            refine q_vret ja_Motions_push_66 rfl ?_
                            show q_W _ _ _ _ 91 [some (.ref 0), some (.int a1), some (.int a2), some (.int a3)] [] s15
                            refine q_aload_n (pc' := 92) ja_C_tell_91 rfl rfl ?_
                            refine q_getf (pc' := 95) (v := .ref 65) ja_C_tell_92 rfl (by decide) ⟨rfl, by decide⟩ rfl ?_
                            refine q_getf (pc' := 98) (v := .ref 66) ja_C_tell_95 rfl (by decide) ⟨rfl, by decide⟩ rfl ?_
                            refine q_getf (pc' := 101) (v := .int (s15 66 0)) ja_C_tell_98 rfl (by decide) ⟨rfl, by decide⟩ rfl ?_
                            exact q_iret ja_C_tell_101 rfl rfl (k30 h2 h4 h5 h7 h9 h10 h20 h30 h31 h33 h35 h36 h38 s11 e11 s12 e12 s13 e13 s14 e14 s15 e15)
                        · intro h39
                          refine q_iconst (pc' := 12) ja_Motions_isFull_11 rfl 1 (by decide) ?_
                          refine q_goto ja_Motions_isFull_12 ?_
                          refine q_iret ja_Motions_isFull_16 rfl (by decide) ?_
                          show q_W _ _ _ _ 60 [some (.ref 0), some (.int a1), some (.int a2), some (.int a3)] [.int 1] s
                          refine q_if_eq (pc' := 63) ja_C_tell_60 rfl (fun h => absurd h ((by decide : ¬ (1 : Int32) = 0))) (fun _ => ?_)
                          refine q_bipush (pc' := 65) ja_C_tell_63 rfl (-4) (by decide) ?_
                          exact q_iret ja_C_tell_65 rfl rfl (k31 h2 h4 h5 h7 h9 h10 h20 h30 h31 h33 h35 h39)
                  · intro h40
                    refine q_iconst (pc' := 22) ja_C_isBill_21 rfl 1 (by decide) ?_
                    refine q_goto ja_C_isBill_22 ?_
                    refine q_iret ja_C_isBill_26 rfl (by decide) ?_
                    show q_W _ _ _ _ 8 [some (.ref 0)] [.int 1] s
                    refine q_if_eq (pc' := 11) ja_C_floor_8 rfl (fun h => absurd h ((by decide : ¬ (1 : Int32) = 0))) (fun _ => ?_)
                    refine q_aload_n (pc' := 12) ja_C_floor_11 rfl rfl ?_
                    refine q_getf (pc' := 15) (v := .ref 32) ja_C_floor_12 rfl (by decide) ⟨rfl, by decide⟩ rfl ?_
                    refine q_aload_n (pc' := 16) ja_C_floor_15 rfl rfl ?_
                    refine q_getf (pc' := 19) (v := .int (s 0 6)) ja_C_floor_16 rfl (by decide) ⟨rfl, by decide⟩ rfl ?_
                    refine q_aald (pc' := 20) (v := .ref (33 + 3 * (s 0 6).toNatClampNeg)) ja_C_floor_19 rfl (by decide) (kd := 17) (l := 8) rfl (by decide) (q_inr (l := 8) (by decide) h20 h40) (f_A32 (f_in (q_inr (l := 8) (by decide) h20 h40))) ?_
                    refine q_getf (pc' := 23) (v := .ref ((33 + 3 * (s 0 6).toNatClampNeg) + 1)) ja_C_floor_20 rfl (f_1_c (f_m32 (f_in (q_inr (l := 8) (by decide) h20 h40)))) ⟨by rw [f_1_k (f_m32 (f_in (q_inr (l := 8) (by decide) h20 h40)))], by decide⟩ (f_1_g2 (f_m32 (f_in (q_inr (l := 8) (by decide) h20 h40)))) ?_
                    refine q_goto ja_C_floor_23 ?_
                    refine q_aret ja_C_floor_30 rfl ?_
                    show q_W _ _ _ _ 39 [some (.ref 0), some (.int a1), some (.int a2), some (.int a3)] [.ref ((33 + 3 * (s 0 6).toNatClampNeg) + 1)] s
                    refine q_iload_n (pc' := 40) ja_C_tell_39 rfl rfl ?_
                    refine q_iload_n (pc' := 41) ja_C_tell_40 rfl rfl ?_
                    refine q_virt (pc' := 44) (c := ((33 + 3 * (s 0 6).toNatClampNeg) + 1)) (as := [.int a1, .int a2]) (r := []) ja_C_tell_41 rfl rfl rfl (f_8_c (f_1_s2 (f_m32 (f_in (q_inr (l := 8) (by decide) h20 h40))))) ⟨by rw [f_8_k (f_1_s2 (f_m32 (f_in (q_inr (l := 8) (by decide) h20 h40))))], by decide⟩ ?_
                    refine q_in (M := jm_Sections_has) rfl (Nat.le_of_ble_eq_true rfl) (ls := [some (.ref ((33 + 3 * (s 0 6).toNatClampNeg) + 1)), some (.int a1), some (.int a2)]) rfl ?_
                    refine q_iload_n (pc' := 1) ja_Sections_has_0 rfl rfl ?_
                    refine q_if_lt (pc' := 4) ja_Sections_has_1 rfl ?_ ?_
                    · intro h41
                      refine q_iconst (pc' := 33) ja_Sections_has_32 rfl 0 (by decide) ?_
                      refine q_iret ja_Sections_has_33 rfl (by decide) ?_
                      show q_W _ _ _ _ 44 [some (.ref 0), some (.int a1), some (.int a2), some (.int a3)] [.int 0] s
                      refine q_if_ne (pc' := 47) ja_C_tell_44 rfl (fun h => absurd ((by decide : (0 : Int32) = 0)) h) (fun _ => ?_)
                      refine q_bipush (pc' := 49) ja_C_tell_47 rfl (-2) (by decide) ?_
                      exact q_iret ja_C_tell_49 rfl rfl (k32 h2 h4 h5 h7 h9 h10 h20 h30 h40 h41)
                    · intro h42
                      refine q_iload_n (pc' := 5) ja_Sections_has_4 rfl rfl ?_
                      refine q_iconst (pc' := 6) ja_Sections_has_5 rfl 2 (by decide) ?_
                      refine q_ic_ne (pc' := 9) ja_Sections_has_6 rfl (fun h => absurd (h5) h) (fun _ => ?_)
                      refine q_iload_n (pc' := 10) ja_Sections_has_9 rfl rfl ?_
                      refine q_aload_n (pc' := 11) ja_Sections_has_10 rfl rfl ?_
                      refine q_getf (pc' := 14) (v := .int (s ((33 + 3 * (s 0 6).toNatClampNeg) + 1) 0)) ja_Sections_has_11 rfl (f_8_c (f_1_s2 (f_m32 (f_in (q_inr (l := 8) (by decide) h20 h40))))) ⟨by rw [f_8_k (f_1_s2 (f_m32 (f_in (q_inr (l := 8) (by decide) h20 h40))))], by decide⟩ (f_i (f_8_k (f_1_s2 (f_m32 (f_in (q_inr (l := 8) (by decide) h20 h40))))) rfl) ?_
                      refine q_ic_gt (pc' := 17) ja_Sections_has_14 rfl ?_ ?_
                      · intro h43
                        refine q_iconst (pc' := 33) ja_Sections_has_32 rfl 0 (by decide) ?_
                        refine q_iret ja_Sections_has_33 rfl (by decide) ?_
                        show q_W _ _ _ _ 44 [some (.ref 0), some (.int a1), some (.int a2), some (.int a3)] [.int 0] s
                        refine q_if_ne (pc' := 47) ja_C_tell_44 rfl (fun h => absurd ((by decide : (0 : Int32) = 0)) h) (fun _ => ?_)
                        refine q_bipush (pc' := 49) ja_C_tell_47 rfl (-2) (by decide) ?_
                        exact q_iret ja_C_tell_49 rfl rfl (k33 h2 h4 h5 h7 h9 h10 h20 h30 h40 h42 h43)
                      · intro h44
                        refine q_goto ja_Sections_has_17 ?_
                        refine q_iconst (pc' := 29) ja_Sections_has_28 rfl 1 (by decide) ?_
                        refine q_goto ja_Sections_has_29 ?_
                        refine q_iret ja_Sections_has_33 rfl (by decide) ?_
                        show q_W _ _ _ _ 44 [some (.ref 0), some (.int a1), some (.int a2), some (.int a3)] [.int 1] s
                        refine q_if_ne (pc' := 47) ja_C_tell_44 rfl (fun _ => ?_) (fun h => absurd h ((by decide : ¬ (1 : Int32) = 0)))
                        refine q_aload_n (pc' := 51) ja_C_tell_50 rfl rfl ?_
                        refine q_getf (pc' := 54) (v := .ref 65) ja_C_tell_51 rfl (by decide) ⟨rfl, by decide⟩ rfl ?_
                        refine q_getf (pc' := 57) (v := .ref 66) ja_C_tell_54 rfl (by decide) ⟨rfl, by decide⟩ rfl ?_
                        refine q_virt (pc' := 60) (c := 66) (as := []) (r := []) ja_C_tell_57 rfl rfl rfl (by decide) ⟨rfl, by decide⟩ ?_
                        refine q_in (M := jm_Motions_isFull) rfl (Nat.le_of_ble_eq_true rfl) (ls := [some (.ref 66)]) rfl ?_
                        refine q_aload_n (pc' := 1) ja_Motions_isFull_0 rfl rfl ?_
                        refine q_getf (pc' := 4) (v := .int (s 66 0)) ja_Motions_isFull_1 rfl (by decide) ⟨rfl, by decide⟩ rfl ?_
                        refine q_aload_n (pc' := 5) ja_Motions_isFull_4 rfl rfl ?_
                        refine q_getf (pc' := 8) (v := .int (s 66 1)) ja_Motions_isFull_5 rfl (by decide) ⟨rfl, by decide⟩ rfl ?_
                        refine q_ic_lt (pc' := 11) ja_Motions_isFull_8 rfl ?_ ?_
                        · intro h45
                          refine q_iconst (pc' := 16) ja_Motions_isFull_15 rfl 0 (by decide) ?_
                          refine q_iret ja_Motions_isFull_16 rfl (by decide) ?_
                          show q_W _ _ _ _ 60 [some (.ref 0), some (.int a1), some (.int a2), some (.int a3)] [.int 0] s
                          refine q_if_eq (pc' := 63) ja_C_tell_60 rfl (fun _ => ?_) (fun h => absurd ((by decide : (0 : Int32) = 0)) h)
                          refine q_aload_n (pc' := 67) ja_C_tell_66 rfl rfl ?_
                          refine q_getf (pc' := 70) (v := .ref 65) ja_C_tell_67 rfl (by decide) ⟨rfl, by decide⟩ rfl ?_
                          refine q_getf (pc' := 73) (v := .ref 66) ja_C_tell_70 rfl (by decide) ⟨rfl, by decide⟩ rfl ?_
                          refine q_iload_n (pc' := 74) ja_C_tell_73 rfl rfl ?_
                          refine q_iconst (pc' := 75) ja_C_tell_74 rfl (-1) (by decide) ?_
                          refine q_iload_n (pc' := 76) ja_C_tell_75 rfl rfl ?_
                          refine q_iload_n (pc' := 77) ja_C_tell_76 rfl rfl ?_
                          refine q_stat (pc' := 80) (as := [.int a1]) (r := [.int a2, .int (-1), .int a1, .ref 66]) ja_C_tell_77 rfl (by decide) rfl rfl ?_
                          refine q_in (M := jm_C_takesWord) rfl (Nat.le_of_ble_eq_true rfl) (ls := [some (.int a1)]) rfl ?_
                          refine q_iload_n (pc' := 1) ja_C_takesWord_0 rfl rfl ?_
                          refine q_iconst (pc' := 2) ja_C_takesWord_1 rfl 2 (by decide) ?_
                          refine q_ic_eq (pc' := 5) ja_C_takesWord_2 rfl (fun _ => ?_) (fun h => absurd (h5) h)
                          refine q_iconst (pc' := 11) ja_C_takesWord_10 rfl 1 (by decide) ?_
                          refine q_goto ja_C_takesWord_11 ?_
                          refine q_iret ja_C_takesWord_15 rfl (by decide) ?_
                          show q_W _ _ _ _ 80 [some (.ref 0), some (.int a1), some (.int a2), some (.int a3)] [.int 1, .int a2, .int (-1), .int a1, .ref 66] s
                          refine q_if_eq (pc' := 83) ja_C_tell_80 rfl (fun h => absurd h ((by decide : ¬ (1 : Int32) = 0))) (fun _ => ?_)
                          refine q_iload_n (pc' := 84) ja_C_tell_83 rfl rfl ?_
                          refine q_goto ja_C_tell_84 ?_
                          refine q_virt (pc' := 91) (c := 66) (as := [.int a1, .int (-1), .int a2, .int a3]) (r := []) ja_C_tell_88 rfl rfl rfl (by decide) ⟨rfl, by decide⟩ ?_
                          refine q_in (M := jm_Motions_push) rfl (Nat.le_of_ble_eq_true rfl) (ls := [some (.ref 66), some (.int a1), some (.int (-1)), some (.int a2), some (.int a3)]) rfl ?_
                          refine q_aload_n (pc' := 1) ja_Motions_push_0 rfl rfl ?_
                          refine q_getf (pc' := 4) (v := .int (s 66 0)) ja_Motions_push_1 rfl (by decide) ⟨rfl, by decide⟩ rfl ?_
                          refine q_if_lt (pc' := 7) ja_Motions_push_4 rfl ?_ ?_
                          · intro h46
                            refine q_vret ja_Motions_push_14 rfl ?_
                            show q_W _ _ _ _ 91 [some (.ref 0), some (.int a1), some (.int a2), some (.int a3)] [] s
                            refine q_aload_n (pc' := 92) ja_C_tell_91 rfl rfl ?_
                            refine q_getf (pc' := 95) (v := .ref 65) ja_C_tell_92 rfl (by decide) ⟨rfl, by decide⟩ rfl ?_
                            refine q_getf (pc' := 98) (v := .ref 66) ja_C_tell_95 rfl (by decide) ⟨rfl, by decide⟩ rfl ?_
                            refine q_getf (pc' := 101) (v := .int (s 66 0)) ja_C_tell_98 rfl (by decide) ⟨rfl, by decide⟩ rfl ?_
                            exact q_iret ja_C_tell_101 rfl rfl (k34 h2 h4 h5 h7 h9 h10 h20 h30 h40 h42 h44 h45 h46)
                          · intro h47
                            refine q_aload_n (pc' := 8) ja_Motions_push_7 rfl rfl ?_
                            refine q_virt (pc' := 11) (c := 66) (as := []) (r := []) ja_Motions_push_8 rfl rfl rfl (by decide) ⟨rfl, by decide⟩ ?_
                            refine q_in (M := jm_Motions_isFull) rfl (Nat.le_of_ble_eq_true rfl) (ls := [some (.ref 66)]) rfl ?_
                            refine q_aload_n (pc' := 1) ja_Motions_isFull_0 rfl rfl ?_
                            refine q_getf (pc' := 4) (v := .int (s 66 0)) ja_Motions_isFull_1 rfl (by decide) ⟨rfl, by decide⟩ rfl ?_
                            refine q_aload_n (pc' := 5) ja_Motions_isFull_4 rfl rfl ?_
                            refine q_getf (pc' := 8) (v := .int (s 66 1)) ja_Motions_isFull_5 rfl (by decide) ⟨rfl, by decide⟩ rfl ?_
                            refine q_ic_lt (pc' := 11) ja_Motions_isFull_8 rfl (fun _ => ?_) (fun h => absurd (h45) h)
                            refine q_iconst (pc' := 16) ja_Motions_isFull_15 rfl 0 (by decide) ?_
                            refine q_iret ja_Motions_isFull_16 rfl (by decide) ?_
                            show q_W _ _ _ _ 11 [some (.ref 66), some (.int a1), some (.int (-1)), some (.int a2), some (.int a3)] [.int 0] s
                            refine q_if_eq (pc' := 14) ja_Motions_push_11 rfl (fun _ => ?_) (fun h => absurd ((by decide : (0 : Int32) = 0)) h)
                            refine q_aload_n (pc' := 16) ja_Motions_push_15 rfl rfl ?_
                            refine q_getf (pc' := 19) (v := .ref 67) ja_Motions_push_16 rfl (by decide) ⟨rfl, by decide⟩ rfl ?_
                            refine q_aload_n (pc' := 20) ja_Motions_push_19 rfl rfl ?_
                            refine q_getf (pc' := 23) (v := .int (s 66 0)) ja_Motions_push_20 rfl (by decide) ⟨rfl, by decide⟩ rfl ?_
                            refine q_iload_n (pc' := 24) ja_Motions_push_23 rfl rfl ?_
                            refine q_iast (pc' := 25) ja_Motions_push_24 rfl (by decide) (l := 5) rfl (k35 h2 h4 h5 h7 h9 h10 h20 h30 h40 h42 h44 h45 h47) ?_
                            intro s16 e16
                            refine q_aload_n (pc' := 26) ja_Motions_push_25 rfl rfl ?_
                            refine q_getf (pc' := 29) (v := .ref 68) ja_Motions_push_26 rfl (by decide) ⟨rfl, by decide⟩ rfl ?_
                            refine q_aload_n (pc' := 30) ja_Motions_push_29 rfl rfl ?_
                            refine q_getf (pc' := 33) (v := .int (s16 66 0)) ja_Motions_push_30 rfl (by decide) ⟨rfl, by decide⟩ rfl ?_
                            refine q_iload_n (pc' := 34) ja_Motions_push_33 rfl rfl ?_
                            refine q_iast (pc' := 35) ja_Motions_push_34 rfl (by decide) (l := 5) rfl (k36 h2 h4 h5 h7 h9 h10 h20 h30 h40 h42 h44 h45 h47 s16 e16) ?_
                            intro s17 e17
                            refine q_aload_n (pc' := 36) ja_Motions_push_35 rfl rfl ?_
                            refine q_getf (pc' := 39) (v := .ref 69) ja_Motions_push_36 rfl (by decide) ⟨rfl, by decide⟩ rfl ?_
                            refine q_aload_n (pc' := 40) ja_Motions_push_39 rfl rfl ?_
                            refine q_getf (pc' := 43) (v := .int (s17 66 0)) ja_Motions_push_40 rfl (by decide) ⟨rfl, by decide⟩ rfl ?_
                            refine q_iload_n (pc' := 44) ja_Motions_push_43 rfl rfl ?_
                            refine q_iast (pc' := 45) ja_Motions_push_44 rfl (by decide) (l := 5) rfl (k37 h2 h4 h5 h7 h9 h10 h20 h30 h40 h42 h44 h45 h47 s16 e16 s17 e17) ?_
                            intro s18 e18
                            refine q_aload_n (pc' := 46) ja_Motions_push_45 rfl rfl ?_
                            refine q_getf (pc' := 49) (v := .ref 70) ja_Motions_push_46 rfl (by decide) ⟨rfl, by decide⟩ rfl ?_
                            refine q_aload_n (pc' := 50) ja_Motions_push_49 rfl rfl ?_
                            refine q_getf (pc' := 53) (v := .int (s18 66 0)) ja_Motions_push_50 rfl (by decide) ⟨rfl, by decide⟩ rfl ?_
                            refine q_iload (pc' := 55) ja_Motions_push_53 rfl rfl ?_
                            refine q_iast (pc' := 56) ja_Motions_push_55 rfl (by decide) (l := 5) rfl (k38 h2 h4 h5 h7 h9 h10 h20 h30 h40 h42 h44 h45 h47 s16 e16 s17 e17 s18 e18) ?_
                            intro s19 e19
                            refine q_aload_n (pc' := 57) ja_Motions_push_56 rfl rfl ?_
                            refine q_dup (pc' := 58) ja_Motions_push_57 rfl rfl ?_
                            refine q_getf (pc' := 61) (v := .int (s19 66 0)) ja_Motions_push_58 rfl (by decide) ⟨rfl, by decide⟩ rfl ?_
                            refine q_iconst (pc' := 62) ja_Motions_push_61 rfl 1 (by decide) ?_
                            refine q_iadd (pc' := 63) ja_Motions_push_62 rfl ?_
                            refine q_putf (pc' := 66) ja_Motions_push_63 rfl (by decide) rfl rfl rfl ?_
                            intro s20 e20
                            refine q_vret ja_Motions_push_66 rfl ?_
                            show q_W _ _ _ _ 91 [some (.ref 0), some (.int a1), some (.int a2), some (.int a3)] [] s20
                            refine q_aload_n (pc' := 92) ja_C_tell_91 rfl rfl ?_
                            refine q_getf (pc' := 95) (v := .ref 65) ja_C_tell_92 rfl (by decide) ⟨rfl, by decide⟩ rfl ?_
                            refine q_getf (pc' := 98) (v := .ref 66) ja_C_tell_95 rfl (by decide) ⟨rfl, by decide⟩ rfl ?_
                            refine q_getf (pc' := 101) (v := .int (s20 66 0)) ja_C_tell_98 rfl (by decide) ⟨rfl, by decide⟩ rfl ?_
                            exact q_iret ja_C_tell_101 rfl rfl (k39 h2 h4 h5 h7 h9 h10 h20 h30 h40 h42 h44 h45 h47 s16 e16 s17 e17 s18 e18 s19 e19 s20 e20)
                        · intro h48
                          refine q_iconst (pc' := 12) ja_Motions_isFull_11 rfl 1 (by decide) ?_
                          refine q_goto ja_Motions_isFull_12 ?_
                          refine q_iret ja_Motions_isFull_16 rfl (by decide) ?_
                          show q_W _ _ _ _ 60 [some (.ref 0), some (.int a1), some (.int a2), some (.int a3)] [.int 1] s
                          refine q_if_eq (pc' := 63) ja_C_tell_60 rfl (fun h => absurd h ((by decide : ¬ (1 : Int32) = 0))) (fun _ => ?_)
                          refine q_bipush (pc' := 65) ja_C_tell_63 rfl (-4) (by decide) ?_
                          exact q_iret ja_C_tell_65 rfl rfl (k40 h2 h4 h5 h7 h9 h10 h20 h30 h40 h42 h44 h48)
            · intro h49
              refine q_bipush (pc' := 34) ja_C_tell_32 rfl (-3) (by decide) ?_
              exact q_iret ja_C_tell_34 rfl rfl (k41 h2 h4 h5 h7 h9 h49)
      · intro h50
        refine q_iload_n (pc' := 6) ja_C_takesWord_5 rfl rfl ?_
        refine q_iconst (pc' := 7) ja_C_takesWord_6 rfl 3 (by decide) ?_
        refine q_ic_ne (pc' := 10) ja_C_takesWord_7 rfl ?_ ?_
        · intro h51
          refine q_iconst (pc' := 15) ja_C_takesWord_14 rfl 0 (by decide) ?_
          refine q_iret ja_C_takesWord_15 rfl (by decide) ?_
          show q_W _ _ _ _ 11 [some (.ref 0), some (.int a1), some (.int a2), some (.int a3)] [.int 0] s
          refine q_if_eq (pc' := 14) ja_C_tell_11 rfl (fun _ => ?_) (fun h => absurd ((by decide : (0 : Int32) = 0)) h)
          refine q_aload_n (pc' := 25) ja_C_tell_24 rfl rfl ?_
          refine q_getf (pc' := 28) (v := .int (s 0 6)) ja_C_tell_25 rfl (by decide) ⟨rfl, by decide⟩ rfl ?_
          refine q_iconst (pc' := 29) ja_C_tell_28 rfl (-1) (by decide) ?_
          refine q_ic_ne (pc' := 32) ja_C_tell_29 rfl ?_ ?_
          · intro h52
            refine q_aload_n (pc' := 36) ja_C_tell_35 rfl rfl ?_
            refine q_virt (pc' := 39) (c := 0) (as := []) (r := []) ja_C_tell_36 rfl rfl rfl (by decide) ⟨rfl, by decide⟩ ?_
            refine q_in (M := jm_C_floor) rfl (Nat.le_of_ble_eq_true rfl) (ls := [some (.ref 0)]) rfl ?_
            refine q_aload_n (pc' := 1) ja_C_floor_0 rfl rfl ?_
            refine q_aload_n (pc' := 2) ja_C_floor_1 rfl rfl ?_
            refine q_getf (pc' := 5) (v := .int (s 0 6)) ja_C_floor_2 rfl (by decide) ⟨rfl, by decide⟩ rfl ?_
            refine q_virt (pc' := 8) (c := 0) (as := [.int (s 0 6)]) (r := []) ja_C_floor_5 rfl rfl rfl (by decide) ⟨rfl, by decide⟩ ?_
            refine q_in (M := jm_C_isBill) rfl (Nat.le_of_ble_eq_true rfl) (ls := [some (.ref 0), some (.int (s 0 6))]) rfl ?_
            refine q_iload_n (pc' := 1) ja_C_isBill_0 rfl rfl ?_
            refine q_if_lt (pc' := 4) ja_C_isBill_1 rfl ?_ ?_
            · intro h53
              refine q_iconst (pc' := 26) ja_C_isBill_25 rfl 0 (by decide) ?_
              refine q_iret ja_C_isBill_26 rfl (by decide) ?_
              show q_W _ _ _ _ 8 [some (.ref 0)] [.int 0] s
              refine q_if_eq (pc' := 11) ja_C_floor_8 rfl (fun _ => ?_) (fun h => absurd ((by decide : (0 : Int32) = 0)) h)
              refine q_aload_n (pc' := 27) ja_C_floor_26 rfl rfl ?_
              refine q_getf (pc' := 30) (v := .ref 58) ja_C_floor_27 rfl (by decide) ⟨rfl, by decide⟩ rfl ?_
              refine q_aret ja_C_floor_30 rfl ?_
              show q_W _ _ _ _ 39 [some (.ref 0), some (.int a1), some (.int a2), some (.int a3)] [.ref 58] s
              refine q_iload_n (pc' := 40) ja_C_tell_39 rfl rfl ?_
              refine q_iload_n (pc' := 41) ja_C_tell_40 rfl rfl ?_
              refine q_virt (pc' := 44) (c := 58) (as := [.int a1, .int a2]) (r := []) ja_C_tell_41 rfl rfl rfl (by decide) ⟨rfl, by decide⟩ ?_
              refine q_in (M := jm_Sections_has) rfl (Nat.le_of_ble_eq_true rfl) (ls := [some (.ref 58), some (.int a1), some (.int a2)]) rfl ?_
              refine q_iload_n (pc' := 1) ja_Sections_has_0 rfl rfl ?_
              refine q_if_lt (pc' := 4) ja_Sections_has_1 rfl ?_ ?_
              · intro h54
                refine q_iconst (pc' := 33) ja_Sections_has_32 rfl 0 (by decide) ?_
                refine q_iret ja_Sections_has_33 rfl (by decide) ?_
                show q_W _ _ _ _ 44 [some (.ref 0), some (.int a1), some (.int a2), some (.int a3)] [.int 0] s
                refine q_if_ne (pc' := 47) ja_C_tell_44 rfl (fun h => absurd ((by decide : (0 : Int32) = 0)) h) (fun _ => ?_)
                refine q_bipush (pc' := 49) ja_C_tell_47 rfl (-2) (by decide) ?_
                exact q_iret ja_C_tell_49 rfl rfl (k42 h2 h4 h50 h51 h52 h53 h54)
              · intro h55
                refine q_iload_n (pc' := 5) ja_Sections_has_4 rfl rfl ?_
                refine q_iconst (pc' := 6) ja_Sections_has_5 rfl 2 (by decide) ?_
                refine q_ic_ne (pc' := 9) ja_Sections_has_6 rfl (fun _ => ?_) (fun h => absurd h (h50))
                refine q_iload_n (pc' := 21) ja_Sections_has_20 rfl rfl ?_
                refine q_aload_n (pc' := 22) ja_Sections_has_21 rfl rfl ?_
                refine q_getf (pc' := 25) (v := .int (s 58 0)) ja_Sections_has_22 rfl (by decide) ⟨rfl, by decide⟩ rfl ?_
                refine q_ic_ge (pc' := 28) ja_Sections_has_25 rfl ?_ ?_
                · intro h56
                  refine q_iconst (pc' := 33) ja_Sections_has_32 rfl 0 (by decide) ?_
                  refine q_iret ja_Sections_has_33 rfl (by decide) ?_
                  show q_W _ _ _ _ 44 [some (.ref 0), some (.int a1), some (.int a2), some (.int a3)] [.int 0] s
                  refine q_if_ne (pc' := 47) ja_C_tell_44 rfl (fun h => absurd ((by decide : (0 : Int32) = 0)) h) (fun _ => ?_)
                  refine q_bipush (pc' := 49) ja_C_tell_47 rfl (-2) (by decide) ?_
                  exact q_iret ja_C_tell_49 rfl rfl (k43 h2 h4 h50 h51 h52 h53 h55 h56)
                · intro h57
                  refine q_iconst (pc' := 29) ja_Sections_has_28 rfl 1 (by decide) ?_
                  refine q_goto ja_Sections_has_29 ?_
                  refine q_iret ja_Sections_has_33 rfl (by decide) ?_
                  show q_W _ _ _ _ 44 [some (.ref 0), some (.int a1), some (.int a2), some (.int a3)] [.int 1] s
                  refine q_if_ne (pc' := 47) ja_C_tell_44 rfl (fun _ => ?_) (fun h => absurd h ((by decide : ¬ (1 : Int32) = 0)))
                  refine q_aload_n (pc' := 51) ja_C_tell_50 rfl rfl ?_
                  refine q_getf (pc' := 54) (v := .ref 65) ja_C_tell_51 rfl (by decide) ⟨rfl, by decide⟩ rfl ?_
                  refine q_getf (pc' := 57) (v := .ref 66) ja_C_tell_54 rfl (by decide) ⟨rfl, by decide⟩ rfl ?_
                  refine q_virt (pc' := 60) (c := 66) (as := []) (r := []) ja_C_tell_57 rfl rfl rfl (by decide) ⟨rfl, by decide⟩ ?_
                  refine q_in (M := jm_Motions_isFull) rfl (Nat.le_of_ble_eq_true rfl) (ls := [some (.ref 66)]) rfl ?_
                  refine q_aload_n (pc' := 1) ja_Motions_isFull_0 rfl rfl ?_
                  refine q_getf (pc' := 4) (v := .int (s 66 0)) ja_Motions_isFull_1 rfl (by decide) ⟨rfl, by decide⟩ rfl ?_
                  refine q_aload_n (pc' := 5) ja_Motions_isFull_4 rfl rfl ?_
                  refine q_getf (pc' := 8) (v := .int (s 66 1)) ja_Motions_isFull_5 rfl (by decide) ⟨rfl, by decide⟩ rfl ?_
                  refine q_ic_lt (pc' := 11) ja_Motions_isFull_8 rfl ?_ ?_
                  · intro h58
                    refine q_iconst (pc' := 16) ja_Motions_isFull_15 rfl 0 (by decide) ?_
                    refine q_iret ja_Motions_isFull_16 rfl (by decide) ?_
                    show q_W _ _ _ _ 60 [some (.ref 0), some (.int a1), some (.int a2), some (.int a3)] [.int 0] s
                    refine q_if_eq (pc' := 63) ja_C_tell_60 rfl (fun _ => ?_) (fun h => absurd ((by decide : (0 : Int32) = 0)) h)
                    refine q_aload_n (pc' := 67) ja_C_tell_66 rfl rfl ?_
                    refine q_getf (pc' := 70) (v := .ref 65) ja_C_tell_67 rfl (by decide) ⟨rfl, by decide⟩ rfl ?_
                    refine q_getf (pc' := 73) (v := .ref 66) ja_C_tell_70 rfl (by decide) ⟨rfl, by decide⟩ rfl ?_
                    refine q_iload_n (pc' := 74) ja_C_tell_73 rfl rfl ?_
                    refine q_iconst (pc' := 75) ja_C_tell_74 rfl (-1) (by decide) ?_
                    refine q_iload_n (pc' := 76) ja_C_tell_75 rfl rfl ?_
                    refine q_iload_n (pc' := 77) ja_C_tell_76 rfl rfl ?_
                    refine q_stat (pc' := 80) (as := [.int a1]) (r := [.int a2, .int (-1), .int a1, .ref 66]) ja_C_tell_77 rfl (by decide) rfl rfl ?_
                    refine q_in (M := jm_C_takesWord) rfl (Nat.le_of_ble_eq_true rfl) (ls := [some (.int a1)]) rfl ?_
                    refine q_iload_n (pc' := 1) ja_C_takesWord_0 rfl rfl ?_
                    refine q_iconst (pc' := 2) ja_C_takesWord_1 rfl 2 (by decide) ?_
                    refine q_ic_eq (pc' := 5) ja_C_takesWord_2 rfl (fun h => absurd h (h50)) (fun _ => ?_)
                    refine q_iload_n (pc' := 6) ja_C_takesWord_5 rfl rfl ?_
                    refine q_iconst (pc' := 7) ja_C_takesWord_6 rfl 3 (by decide) ?_
                    refine q_ic_ne (pc' := 10) ja_C_takesWord_7 rfl (fun _ => ?_) (fun h => absurd h (h51))
                    refine q_iconst (pc' := 15) ja_C_takesWord_14 rfl 0 (by decide) ?_
                    refine q_iret ja_C_takesWord_15 rfl (by decide) ?_
                    show q_W _ _ _ _ 80 [some (.ref 0), some (.int a1), some (.int a2), some (.int a3)] [.int 0, .int a2, .int (-1), .int a1, .ref 66] s
                    refine q_if_eq (pc' := 83) ja_C_tell_80 rfl (fun _ => ?_) (fun h => absurd ((by decide : (0 : Int32) = 0)) h)
                    refine q_iconst (pc' := 88) ja_C_tell_87 rfl (-1) (by decide) ?_
                    refine q_virt (pc' := 91) (c := 66) (as := [.int a1, .int (-1), .int a2, .int (-1)]) (r := []) ja_C_tell_88 rfl rfl rfl (by decide) ⟨rfl, by decide⟩ ?_
                    refine q_in (M := jm_Motions_push) rfl (Nat.le_of_ble_eq_true rfl) (ls := [some (.ref 66), some (.int a1), some (.int (-1)), some (.int a2), some (.int (-1))]) rfl ?_
                    refine q_aload_n (pc' := 1) ja_Motions_push_0 rfl rfl ?_
                    refine q_getf (pc' := 4) (v := .int (s 66 0)) ja_Motions_push_1 rfl (by decide) ⟨rfl, by decide⟩ rfl ?_
                    refine q_if_lt (pc' := 7) ja_Motions_push_4 rfl ?_ ?_
                    · intro h59
                      refine q_vret ja_Motions_push_14 rfl ?_
                      show q_W _ _ _ _ 91 [some (.ref 0), some (.int a1), some (.int a2), some (.int a3)] [] s
                      refine q_aload_n (pc' := 92) ja_C_tell_91 rfl rfl ?_
                      refine q_getf (pc' := 95) (v := .ref 65) ja_C_tell_92 rfl (by decide) ⟨rfl, by decide⟩ rfl ?_
                      refine q_getf (pc' := 98) (v := .ref 66) ja_C_tell_95 rfl (by decide) ⟨rfl, by decide⟩ rfl ?_
                      refine q_getf (pc' := 101) (v := .int (s 66 0)) ja_C_tell_98 rfl (by decide) ⟨rfl, by decide⟩ rfl ?_
                      exact q_iret ja_C_tell_101 rfl rfl (k44 h2 h4 h50 h51 h52 h53 h55 h57 h58 h59)
                    · intro h60
                      refine q_aload_n (pc' := 8) ja_Motions_push_7 rfl rfl ?_
                      refine q_virt (pc' := 11) (c := 66) (as := []) (r := []) ja_Motions_push_8 rfl rfl rfl (by decide) ⟨rfl, by decide⟩ ?_
                      refine q_in (M := jm_Motions_isFull) rfl (Nat.le_of_ble_eq_true rfl) (ls := [some (.ref 66)]) rfl ?_
                      refine q_aload_n (pc' := 1) ja_Motions_isFull_0 rfl rfl ?_
                      refine q_getf (pc' := 4) (v := .int (s 66 0)) ja_Motions_isFull_1 rfl (by decide) ⟨rfl, by decide⟩ rfl ?_
                      refine q_aload_n (pc' := 5) ja_Motions_isFull_4 rfl rfl ?_
                      refine q_getf (pc' := 8) (v := .int (s 66 1)) ja_Motions_isFull_5 rfl (by decide) ⟨rfl, by decide⟩ rfl ?_
                      refine q_ic_lt (pc' := 11) ja_Motions_isFull_8 rfl (fun _ => ?_) (fun h => absurd (h58) h)
                      refine q_iconst (pc' := 16) ja_Motions_isFull_15 rfl 0 (by decide) ?_
                      refine q_iret ja_Motions_isFull_16 rfl (by decide) ?_
                      show q_W _ _ _ _ 11 [some (.ref 66), some (.int a1), some (.int (-1)), some (.int a2), some (.int (-1))] [.int 0] s
                      refine q_if_eq (pc' := 14) ja_Motions_push_11 rfl (fun _ => ?_) (fun h => absurd ((by decide : (0 : Int32) = 0)) h)
                      refine q_aload_n (pc' := 16) ja_Motions_push_15 rfl rfl ?_
                      refine q_getf (pc' := 19) (v := .ref 67) ja_Motions_push_16 rfl (by decide) ⟨rfl, by decide⟩ rfl ?_
                      refine q_aload_n (pc' := 20) ja_Motions_push_19 rfl rfl ?_
                      refine q_getf (pc' := 23) (v := .int (s 66 0)) ja_Motions_push_20 rfl (by decide) ⟨rfl, by decide⟩ rfl ?_
                      refine q_iload_n (pc' := 24) ja_Motions_push_23 rfl rfl ?_
                      refine q_iast (pc' := 25) ja_Motions_push_24 rfl (by decide) (l := 5) rfl (k45 h2 h4 h50 h51 h52 h53 h55 h57 h58 h60) ?_
                      intro s21 e21
                      refine q_aload_n (pc' := 26) ja_Motions_push_25 rfl rfl ?_
                      refine q_getf (pc' := 29) (v := .ref 68) ja_Motions_push_26 rfl (by decide) ⟨rfl, by decide⟩ rfl ?_
                      refine q_aload_n (pc' := 30) ja_Motions_push_29 rfl rfl ?_
                      refine q_getf (pc' := 33) (v := .int (s21 66 0)) ja_Motions_push_30 rfl (by decide) ⟨rfl, by decide⟩ rfl ?_
                      refine q_iload_n (pc' := 34) ja_Motions_push_33 rfl rfl ?_
                      refine q_iast (pc' := 35) ja_Motions_push_34 rfl (by decide) (l := 5) rfl (k46 h2 h4 h50 h51 h52 h53 h55 h57 h58 h60 s21 e21) ?_
                      intro s22 e22
                      refine q_aload_n (pc' := 36) ja_Motions_push_35 rfl rfl ?_
                      refine q_getf (pc' := 39) (v := .ref 69) ja_Motions_push_36 rfl (by decide) ⟨rfl, by decide⟩ rfl ?_
                      refine q_aload_n (pc' := 40) ja_Motions_push_39 rfl rfl ?_
                      refine q_getf (pc' := 43) (v := .int (s22 66 0)) ja_Motions_push_40 rfl (by decide) ⟨rfl, by decide⟩ rfl ?_
                      refine q_iload_n (pc' := 44) ja_Motions_push_43 rfl rfl ?_
                      refine q_iast (pc' := 45) ja_Motions_push_44 rfl (by decide) (l := 5) rfl (k47 h2 h4 h50 h51 h52 h53 h55 h57 h58 h60 s21 e21 s22 e22) ?_
                      intro s23 e23
                      refine q_aload_n (pc' := 46) ja_Motions_push_45 rfl rfl ?_
                      refine q_getf (pc' := 49) (v := .ref 70) ja_Motions_push_46 rfl (by decide) ⟨rfl, by decide⟩ rfl ?_
                      refine q_aload_n (pc' := 50) ja_Motions_push_49 rfl rfl ?_
                      refine q_getf (pc' := 53) (v := .int (s23 66 0)) ja_Motions_push_50 rfl (by decide) ⟨rfl, by decide⟩ rfl ?_
                      refine q_iload (pc' := 55) ja_Motions_push_53 rfl rfl ?_
                      refine q_iast (pc' := 56) ja_Motions_push_55 rfl (by decide) (l := 5) rfl (k48 h2 h4 h50 h51 h52 h53 h55 h57 h58 h60 s21 e21 s22 e22 s23 e23) ?_
                      intro s24 e24
                      refine q_aload_n (pc' := 57) ja_Motions_push_56 rfl rfl ?_
                      refine q_dup (pc' := 58) ja_Motions_push_57 rfl rfl ?_
                      refine q_getf (pc' := 61) (v := .int (s24 66 0)) ja_Motions_push_58 rfl (by decide) ⟨rfl, by decide⟩ rfl ?_
                      refine q_iconst (pc' := 62) ja_Motions_push_61 rfl 1 (by decide) ?_
                      refine q_iadd (pc' := 63) ja_Motions_push_62 rfl ?_
                      refine q_putf (pc' := 66) ja_Motions_push_63 rfl (by decide) rfl rfl rfl ?_
                      intro s25 e25
                      refine q_vret ja_Motions_push_66 rfl ?_
                      show q_W _ _ _ _ 91 [some (.ref 0), some (.int a1), some (.int a2), some (.int a3)] [] s25
                      refine q_aload_n (pc' := 92) ja_C_tell_91 rfl rfl ?_
                      refine q_getf (pc' := 95) (v := .ref 65) ja_C_tell_92 rfl (by decide) ⟨rfl, by decide⟩ rfl ?_
                      refine q_getf (pc' := 98) (v := .ref 66) ja_C_tell_95 rfl (by decide) ⟨rfl, by decide⟩ rfl ?_
                      refine q_getf (pc' := 101) (v := .int (s25 66 0)) ja_C_tell_98 rfl (by decide) ⟨rfl, by decide⟩ rfl ?_
                      exact q_iret ja_C_tell_101 rfl rfl (k49 h2 h4 h50 h51 h52 h53 h55 h57 h58 h60 s21 e21 s22 e22 s23 e23 s24 e24 s25 e25)
                  · intro h61
                    refine q_iconst (pc' := 12) ja_Motions_isFull_11 rfl 1 (by decide) ?_
                    refine q_goto ja_Motions_isFull_12 ?_
                    refine q_iret ja_Motions_isFull_16 rfl (by decide) ?_
                    show q_W _ _ _ _ 60 [some (.ref 0), some (.int a1), some (.int a2), some (.int a3)] [.int 1] s
                    refine q_if_eq (pc' := 63) ja_C_tell_60 rfl (fun h => absurd h ((by decide : ¬ (1 : Int32) = 0))) (fun _ => ?_)
                    refine q_bipush (pc' := 65) ja_C_tell_63 rfl (-4) (by decide) ?_
                    exact q_iret ja_C_tell_65 rfl rfl (k50 h2 h4 h50 h51 h52 h53 h55 h57 h61)
            · intro h62
              refine q_iload_n (pc' := 5) ja_C_isBill_4 rfl rfl ?_
              refine q_aload_n (pc' := 6) ja_C_isBill_5 rfl rfl ?_
              refine q_getf (pc' := 9) (v := .int (s 0 3)) ja_C_isBill_6 rfl (by decide) ⟨rfl, by decide⟩ rfl ?_
              refine q_ic_ge (pc' := 12) ja_C_isBill_9 rfl ?_ ?_
              · intro h63
                refine q_iconst (pc' := 26) ja_C_isBill_25 rfl 0 (by decide) ?_
                refine q_iret ja_C_isBill_26 rfl (by decide) ?_
                show q_W _ _ _ _ 8 [some (.ref 0)] [.int 0] s
                refine q_if_eq (pc' := 11) ja_C_floor_8 rfl (fun _ => ?_) (fun h => absurd ((by decide : (0 : Int32) = 0)) h)
                refine q_aload_n (pc' := 27) ja_C_floor_26 rfl rfl ?_
                refine q_getf (pc' := 30) (v := .ref 58) ja_C_floor_27 rfl (by decide) ⟨rfl, by decide⟩ rfl ?_
                refine q_aret ja_C_floor_30 rfl ?_
                show q_W _ _ _ _ 39 [some (.ref 0), some (.int a1), some (.int a2), some (.int a3)] [.ref 58] s
                refine q_iload_n (pc' := 40) ja_C_tell_39 rfl rfl ?_
                refine q_iload_n (pc' := 41) ja_C_tell_40 rfl rfl ?_
                refine q_virt (pc' := 44) (c := 58) (as := [.int a1, .int a2]) (r := []) ja_C_tell_41 rfl rfl rfl (by decide) ⟨rfl, by decide⟩ ?_
                refine q_in (M := jm_Sections_has) rfl (Nat.le_of_ble_eq_true rfl) (ls := [some (.ref 58), some (.int a1), some (.int a2)]) rfl ?_
                refine q_iload_n (pc' := 1) ja_Sections_has_0 rfl rfl ?_
                refine q_if_lt (pc' := 4) ja_Sections_has_1 rfl ?_ ?_
                · intro h64
                  refine q_iconst (pc' := 33) ja_Sections_has_32 rfl 0 (by decide) ?_
                  refine q_iret ja_Sections_has_33 rfl (by decide) ?_
                  show q_W _ _ _ _ 44 [some (.ref 0), some (.int a1), some (.int a2), some (.int a3)] [.int 0] s
                  refine q_if_ne (pc' := 47) ja_C_tell_44 rfl (fun h => absurd ((by decide : (0 : Int32) = 0)) h) (fun _ => ?_)
                  refine q_bipush (pc' := 49) ja_C_tell_47 rfl (-2) (by decide) ?_
                  exact q_iret ja_C_tell_49 rfl rfl (k51 h2 h4 h50 h51 h52 h62 h63 h64)
                · intro h65
                  refine q_iload_n (pc' := 5) ja_Sections_has_4 rfl rfl ?_
                  refine q_iconst (pc' := 6) ja_Sections_has_5 rfl 2 (by decide) ?_
                  refine q_ic_ne (pc' := 9) ja_Sections_has_6 rfl (fun _ => ?_) (fun h => absurd h (h50))
                  refine q_iload_n (pc' := 21) ja_Sections_has_20 rfl rfl ?_
                  refine q_aload_n (pc' := 22) ja_Sections_has_21 rfl rfl ?_
                  refine q_getf (pc' := 25) (v := .int (s 58 0)) ja_Sections_has_22 rfl (by decide) ⟨rfl, by decide⟩ rfl ?_
                  refine q_ic_ge (pc' := 28) ja_Sections_has_25 rfl ?_ ?_
                  · intro h66
                    refine q_iconst (pc' := 33) ja_Sections_has_32 rfl 0 (by decide) ?_
                    refine q_iret ja_Sections_has_33 rfl (by decide) ?_
                    show q_W _ _ _ _ 44 [some (.ref 0), some (.int a1), some (.int a2), some (.int a3)] [.int 0] s
                    refine q_if_ne (pc' := 47) ja_C_tell_44 rfl (fun h => absurd ((by decide : (0 : Int32) = 0)) h) (fun _ => ?_)
                    refine q_bipush (pc' := 49) ja_C_tell_47 rfl (-2) (by decide) ?_
                    exact q_iret ja_C_tell_49 rfl rfl (k52 h2 h4 h50 h51 h52 h62 h63 h65 h66)
                  · intro h67
                    refine q_iconst (pc' := 29) ja_Sections_has_28 rfl 1 (by decide) ?_
                    refine q_goto ja_Sections_has_29 ?_
                    refine q_iret ja_Sections_has_33 rfl (by decide) ?_
                    show q_W _ _ _ _ 44 [some (.ref 0), some (.int a1), some (.int a2), some (.int a3)] [.int 1] s
                    refine q_if_ne (pc' := 47) ja_C_tell_44 rfl (fun _ => ?_) (fun h => absurd h ((by decide : ¬ (1 : Int32) = 0)))
                    refine q_aload_n (pc' := 51) ja_C_tell_50 rfl rfl ?_
                    refine q_getf (pc' := 54) (v := .ref 65) ja_C_tell_51 rfl (by decide) ⟨rfl, by decide⟩ rfl ?_
                    refine q_getf (pc' := 57) (v := .ref 66) ja_C_tell_54 rfl (by decide) ⟨rfl, by decide⟩ rfl ?_
                    refine q_virt (pc' := 60) (c := 66) (as := []) (r := []) ja_C_tell_57 rfl rfl rfl (by decide) ⟨rfl, by decide⟩ ?_
                    refine q_in (M := jm_Motions_isFull) rfl (Nat.le_of_ble_eq_true rfl) (ls := [some (.ref 66)]) rfl ?_
                    refine q_aload_n (pc' := 1) ja_Motions_isFull_0 rfl rfl ?_
                    refine q_getf (pc' := 4) (v := .int (s 66 0)) ja_Motions_isFull_1 rfl (by decide) ⟨rfl, by decide⟩ rfl ?_
                    refine q_aload_n (pc' := 5) ja_Motions_isFull_4 rfl rfl ?_
                    refine q_getf (pc' := 8) (v := .int (s 66 1)) ja_Motions_isFull_5 rfl (by decide) ⟨rfl, by decide⟩ rfl ?_
                    refine q_ic_lt (pc' := 11) ja_Motions_isFull_8 rfl ?_ ?_
                    · intro h68
                      refine q_iconst (pc' := 16) ja_Motions_isFull_15 rfl 0 (by decide) ?_
                      refine q_iret ja_Motions_isFull_16 rfl (by decide) ?_
                      show q_W _ _ _ _ 60 [some (.ref 0), some (.int a1), some (.int a2), some (.int a3)] [.int 0] s
                      refine q_if_eq (pc' := 63) ja_C_tell_60 rfl (fun _ => ?_) (fun h => absurd ((by decide : (0 : Int32) = 0)) h)
                      refine q_aload_n (pc' := 67) ja_C_tell_66 rfl rfl ?_
                      refine q_getf (pc' := 70) (v := .ref 65) ja_C_tell_67 rfl (by decide) ⟨rfl, by decide⟩ rfl ?_
                      refine q_getf (pc' := 73) (v := .ref 66) ja_C_tell_70 rfl (by decide) ⟨rfl, by decide⟩ rfl ?_
                      refine q_iload_n (pc' := 74) ja_C_tell_73 rfl rfl ?_
                      refine q_iconst (pc' := 75) ja_C_tell_74 rfl (-1) (by decide) ?_
                      refine q_iload_n (pc' := 76) ja_C_tell_75 rfl rfl ?_
                      refine q_iload_n (pc' := 77) ja_C_tell_76 rfl rfl ?_
                      refine q_stat (pc' := 80) (as := [.int a1]) (r := [.int a2, .int (-1), .int a1, .ref 66]) ja_C_tell_77 rfl (by decide) rfl rfl ?_
                      refine q_in (M := jm_C_takesWord) rfl (Nat.le_of_ble_eq_true rfl) (ls := [some (.int a1)]) rfl ?_
                      refine q_iload_n (pc' := 1) ja_C_takesWord_0 rfl rfl ?_
                      refine q_iconst (pc' := 2) ja_C_takesWord_1 rfl 2 (by decide) ?_
                      refine q_ic_eq (pc' := 5) ja_C_takesWord_2 rfl (fun h => absurd h (h50)) (fun _ => ?_)
                      refine q_iload_n (pc' := 6) ja_C_takesWord_5 rfl rfl ?_
                      refine q_iconst (pc' := 7) ja_C_takesWord_6 rfl 3 (by decide) ?_
                      refine q_ic_ne (pc' := 10) ja_C_takesWord_7 rfl (fun _ => ?_) (fun h => absurd h (h51))
                      refine q_iconst (pc' := 15) ja_C_takesWord_14 rfl 0 (by decide) ?_
                      refine q_iret ja_C_takesWord_15 rfl (by decide) ?_
                      show q_W _ _ _ _ 80 [some (.ref 0), some (.int a1), some (.int a2), some (.int a3)] [.int 0, .int a2, .int (-1), .int a1, .ref 66] s
                      refine q_if_eq (pc' := 83) ja_C_tell_80 rfl (fun _ => ?_) (fun h => absurd ((by decide : (0 : Int32) = 0)) h)
                      refine q_iconst (pc' := 88) ja_C_tell_87 rfl (-1) (by decide) ?_
                      refine q_virt (pc' := 91) (c := 66) (as := [.int a1, .int (-1), .int a2, .int (-1)]) (r := []) ja_C_tell_88 rfl rfl rfl (by decide) ⟨rfl, by decide⟩ ?_
                      refine q_in (M := jm_Motions_push) rfl (Nat.le_of_ble_eq_true rfl) (ls := [some (.ref 66), some (.int a1), some (.int (-1)), some (.int a2), some (.int (-1))]) rfl ?_
                      refine q_aload_n (pc' := 1) ja_Motions_push_0 rfl rfl ?_
                      refine q_getf (pc' := 4) (v := .int (s 66 0)) ja_Motions_push_1 rfl (by decide) ⟨rfl, by decide⟩ rfl ?_
                      refine q_if_lt (pc' := 7) ja_Motions_push_4 rfl ?_ ?_
                      · intro h69
                        refine q_vret ja_Motions_push_14 rfl ?_
                        show q_W _ _ _ _ 91 [some (.ref 0), some (.int a1), some (.int a2), some (.int a3)] [] s
                        refine q_aload_n (pc' := 92) ja_C_tell_91 rfl rfl ?_
                        refine q_getf (pc' := 95) (v := .ref 65) ja_C_tell_92 rfl (by decide) ⟨rfl, by decide⟩ rfl ?_
                        refine q_getf (pc' := 98) (v := .ref 66) ja_C_tell_95 rfl (by decide) ⟨rfl, by decide⟩ rfl ?_
                        refine q_getf (pc' := 101) (v := .int (s 66 0)) ja_C_tell_98 rfl (by decide) ⟨rfl, by decide⟩ rfl ?_
                        exact q_iret ja_C_tell_101 rfl rfl (k53 h2 h4 h50 h51 h52 h62 h63 h65 h67 h68 h69)
                      · intro h70
                        refine q_aload_n (pc' := 8) ja_Motions_push_7 rfl rfl ?_
                        refine q_virt (pc' := 11) (c := 66) (as := []) (r := []) ja_Motions_push_8 rfl rfl rfl (by decide) ⟨rfl, by decide⟩ ?_
                        refine q_in (M := jm_Motions_isFull) rfl (Nat.le_of_ble_eq_true rfl) (ls := [some (.ref 66)]) rfl ?_
                        refine q_aload_n (pc' := 1) ja_Motions_isFull_0 rfl rfl ?_
                        refine q_getf (pc' := 4) (v := .int (s 66 0)) ja_Motions_isFull_1 rfl (by decide) ⟨rfl, by decide⟩ rfl ?_
                        refine q_aload_n (pc' := 5) ja_Motions_isFull_4 rfl rfl ?_
                        refine q_getf (pc' := 8) (v := .int (s 66 1)) ja_Motions_isFull_5 rfl (by decide) ⟨rfl, by decide⟩ rfl ?_
                        refine q_ic_lt (pc' := 11) ja_Motions_isFull_8 rfl (fun _ => ?_) (fun h => absurd (h68) h)
                        refine q_iconst (pc' := 16) ja_Motions_isFull_15 rfl 0 (by decide) ?_
                        refine q_iret ja_Motions_isFull_16 rfl (by decide) ?_
                        show q_W _ _ _ _ 11 [some (.ref 66), some (.int a1), some (.int (-1)), some (.int a2), some (.int (-1))] [.int 0] s
                        refine q_if_eq (pc' := 14) ja_Motions_push_11 rfl (fun _ => ?_) (fun h => absurd ((by decide : (0 : Int32) = 0)) h)
                        refine q_aload_n (pc' := 16) ja_Motions_push_15 rfl rfl ?_
                        refine q_getf (pc' := 19) (v := .ref 67) ja_Motions_push_16 rfl (by decide) ⟨rfl, by decide⟩ rfl ?_
                        refine q_aload_n (pc' := 20) ja_Motions_push_19 rfl rfl ?_
                        refine q_getf (pc' := 23) (v := .int (s 66 0)) ja_Motions_push_20 rfl (by decide) ⟨rfl, by decide⟩ rfl ?_
                        refine q_iload_n (pc' := 24) ja_Motions_push_23 rfl rfl ?_
                        refine q_iast (pc' := 25) ja_Motions_push_24 rfl (by decide) (l := 5) rfl (k54 h2 h4 h50 h51 h52 h62 h63 h65 h67 h68 h70) ?_
                        intro s26 e26
                        refine q_aload_n (pc' := 26) ja_Motions_push_25 rfl rfl ?_
                        refine q_getf (pc' := 29) (v := .ref 68) ja_Motions_push_26 rfl (by decide) ⟨rfl, by decide⟩ rfl ?_
                        refine q_aload_n (pc' := 30) ja_Motions_push_29 rfl rfl ?_
                        refine q_getf (pc' := 33) (v := .int (s26 66 0)) ja_Motions_push_30 rfl (by decide) ⟨rfl, by decide⟩ rfl ?_
                        refine q_iload_n (pc' := 34) ja_Motions_push_33 rfl rfl ?_
                        refine q_iast (pc' := 35) ja_Motions_push_34 rfl (by decide) (l := 5) rfl (k55 h2 h4 h50 h51 h52 h62 h63 h65 h67 h68 h70 s26 e26) ?_
                        intro s27 e27
                        refine q_aload_n (pc' := 36) ja_Motions_push_35 rfl rfl ?_
                        refine q_getf (pc' := 39) (v := .ref 69) ja_Motions_push_36 rfl (by decide) ⟨rfl, by decide⟩ rfl ?_
                        refine q_aload_n (pc' := 40) ja_Motions_push_39 rfl rfl ?_
                        refine q_getf (pc' := 43) (v := .int (s27 66 0)) ja_Motions_push_40 rfl (by decide) ⟨rfl, by decide⟩ rfl ?_
                        refine q_iload_n (pc' := 44) ja_Motions_push_43 rfl rfl ?_
                        refine q_iast (pc' := 45) ja_Motions_push_44 rfl (by decide) (l := 5) rfl (k56 h2 h4 h50 h51 h52 h62 h63 h65 h67 h68 h70 s26 e26 s27 e27) ?_
                        intro s28 e28
                        refine q_aload_n (pc' := 46) ja_Motions_push_45 rfl rfl ?_
                        refine q_getf (pc' := 49) (v := .ref 70) ja_Motions_push_46 rfl (by decide) ⟨rfl, by decide⟩ rfl ?_
                        refine q_aload_n (pc' := 50) ja_Motions_push_49 rfl rfl ?_
                        refine q_getf (pc' := 53) (v := .int (s28 66 0)) ja_Motions_push_50 rfl (by decide) ⟨rfl, by decide⟩ rfl ?_
                        refine q_iload (pc' := 55) ja_Motions_push_53 rfl rfl ?_
                        refine q_iast (pc' := 56) ja_Motions_push_55 rfl (by decide) (l := 5) rfl (k57 h2 h4 h50 h51 h52 h62 h63 h65 h67 h68 h70 s26 e26 s27 e27 s28 e28) ?_
                        intro s29 e29
                        refine q_aload_n (pc' := 57) ja_Motions_push_56 rfl rfl ?_
                        refine q_dup (pc' := 58) ja_Motions_push_57 rfl rfl ?_
                        refine q_getf (pc' := 61) (v := .int (s29 66 0)) ja_Motions_push_58 rfl (by decide) ⟨rfl, by decide⟩ rfl ?_
                        refine q_iconst (pc' := 62) ja_Motions_push_61 rfl 1 (by decide) ?_
                        refine q_iadd (pc' := 63) ja_Motions_push_62 rfl ?_
                        refine q_putf (pc' := 66) ja_Motions_push_63 rfl (by decide) rfl rfl rfl ?_
                        intro s30 e30
                        refine q_vret ja_Motions_push_66 rfl ?_
                        show q_W _ _ _ _ 91 [some (.ref 0), some (.int a1), some (.int a2), some (.int a3)] [] s30
                        refine q_aload_n (pc' := 92) ja_C_tell_91 rfl rfl ?_
                        refine q_getf (pc' := 95) (v := .ref 65) ja_C_tell_92 rfl (by decide) ⟨rfl, by decide⟩ rfl ?_
                        refine q_getf (pc' := 98) (v := .ref 66) ja_C_tell_95 rfl (by decide) ⟨rfl, by decide⟩ rfl ?_
                        refine q_getf (pc' := 101) (v := .int (s30 66 0)) ja_C_tell_98 rfl (by decide) ⟨rfl, by decide⟩ rfl ?_
                        exact q_iret ja_C_tell_101 rfl rfl (k58 h2 h4 h50 h51 h52 h62 h63 h65 h67 h68 h70 s26 e26 s27 e27 s28 e28 s29 e29 s30 e30)
                    · intro h71
                      refine q_iconst (pc' := 12) ja_Motions_isFull_11 rfl 1 (by decide) ?_
                      refine q_goto ja_Motions_isFull_12 ?_
                      refine q_iret ja_Motions_isFull_16 rfl (by decide) ?_
                      show q_W _ _ _ _ 60 [some (.ref 0), some (.int a1), some (.int a2), some (.int a3)] [.int 1] s
                      refine q_if_eq (pc' := 63) ja_C_tell_60 rfl (fun h => absurd h ((by decide : ¬ (1 : Int32) = 0))) (fun _ => ?_)
                      refine q_bipush (pc' := 65) ja_C_tell_63 rfl (-4) (by decide) ?_
                      exact q_iret ja_C_tell_65 rfl rfl (k59 h2 h4 h50 h51 h52 h62 h63 h65 h67 h71)
              · intro h72
                refine q_iload_n (pc' := 13) ja_C_isBill_12 rfl rfl ?_
                refine q_aload_n (pc' := 14) ja_C_isBill_13 rfl rfl ?_
                refine q_getf (pc' := 17) (v := .ref 32) ja_C_isBill_14 rfl (by decide) ⟨rfl, by decide⟩ rfl ?_
                refine q_alen (pc' := 18) ja_C_isBill_17 rfl (by decide) (kd := 17) (l := 8) rfl (by decide) (v := 8) (by decide) ?_
                refine q_ic_ge (pc' := 21) ja_C_isBill_18 rfl ?_ ?_
                · intro h73
                  refine q_iconst (pc' := 26) ja_C_isBill_25 rfl 0 (by decide) ?_
                  refine q_iret ja_C_isBill_26 rfl (by decide) ?_
                  show q_W _ _ _ _ 8 [some (.ref 0)] [.int 0] s
                  refine q_if_eq (pc' := 11) ja_C_floor_8 rfl (fun _ => ?_) (fun h => absurd ((by decide : (0 : Int32) = 0)) h)
                  refine q_aload_n (pc' := 27) ja_C_floor_26 rfl rfl ?_
                  refine q_getf (pc' := 30) (v := .ref 58) ja_C_floor_27 rfl (by decide) ⟨rfl, by decide⟩ rfl ?_
                  refine q_aret ja_C_floor_30 rfl ?_
                  show q_W _ _ _ _ 39 [some (.ref 0), some (.int a1), some (.int a2), some (.int a3)] [.ref 58] s
                  refine q_iload_n (pc' := 40) ja_C_tell_39 rfl rfl ?_
                  refine q_iload_n (pc' := 41) ja_C_tell_40 rfl rfl ?_
                  refine q_virt (pc' := 44) (c := 58) (as := [.int a1, .int a2]) (r := []) ja_C_tell_41 rfl rfl rfl (by decide) ⟨rfl, by decide⟩ ?_
                  refine q_in (M := jm_Sections_has) rfl (Nat.le_of_ble_eq_true rfl) (ls := [some (.ref 58), some (.int a1), some (.int a2)]) rfl ?_
                  refine q_iload_n (pc' := 1) ja_Sections_has_0 rfl rfl ?_
                  refine q_if_lt (pc' := 4) ja_Sections_has_1 rfl ?_ ?_
                  · intro h74
                    refine q_iconst (pc' := 33) ja_Sections_has_32 rfl 0 (by decide) ?_
                    refine q_iret ja_Sections_has_33 rfl (by decide) ?_
                    show q_W _ _ _ _ 44 [some (.ref 0), some (.int a1), some (.int a2), some (.int a3)] [.int 0] s
                    refine q_if_ne (pc' := 47) ja_C_tell_44 rfl (fun h => absurd ((by decide : (0 : Int32) = 0)) h) (fun _ => ?_)
                    refine q_bipush (pc' := 49) ja_C_tell_47 rfl (-2) (by decide) ?_
                    exact q_iret ja_C_tell_49 rfl rfl (k60 h2 h4 h50 h51 h52 h62 h72 h73 h74)
                  · intro h75
                    refine q_iload_n (pc' := 5) ja_Sections_has_4 rfl rfl ?_
                    refine q_iconst (pc' := 6) ja_Sections_has_5 rfl 2 (by decide) ?_
                    refine q_ic_ne (pc' := 9) ja_Sections_has_6 rfl (fun _ => ?_) (fun h => absurd h (h50))
                    refine q_iload_n (pc' := 21) ja_Sections_has_20 rfl rfl ?_
                    refine q_aload_n (pc' := 22) ja_Sections_has_21 rfl rfl ?_
                    refine q_getf (pc' := 25) (v := .int (s 58 0)) ja_Sections_has_22 rfl (by decide) ⟨rfl, by decide⟩ rfl ?_
                    refine q_ic_ge (pc' := 28) ja_Sections_has_25 rfl ?_ ?_
                    · intro h76
                      refine q_iconst (pc' := 33) ja_Sections_has_32 rfl 0 (by decide) ?_
                      refine q_iret ja_Sections_has_33 rfl (by decide) ?_
                      show q_W _ _ _ _ 44 [some (.ref 0), some (.int a1), some (.int a2), some (.int a3)] [.int 0] s
                      refine q_if_ne (pc' := 47) ja_C_tell_44 rfl (fun h => absurd ((by decide : (0 : Int32) = 0)) h) (fun _ => ?_)
                      refine q_bipush (pc' := 49) ja_C_tell_47 rfl (-2) (by decide) ?_
                      exact q_iret ja_C_tell_49 rfl rfl (k61 h2 h4 h50 h51 h52 h62 h72 h73 h75 h76)
                    · intro h77
                      refine q_iconst (pc' := 29) ja_Sections_has_28 rfl 1 (by decide) ?_
                      refine q_goto ja_Sections_has_29 ?_
                      refine q_iret ja_Sections_has_33 rfl (by decide) ?_
                      show q_W _ _ _ _ 44 [some (.ref 0), some (.int a1), some (.int a2), some (.int a3)] [.int 1] s
                      refine q_if_ne (pc' := 47) ja_C_tell_44 rfl (fun _ => ?_) (fun h => absurd h ((by decide : ¬ (1 : Int32) = 0)))
                      refine q_aload_n (pc' := 51) ja_C_tell_50 rfl rfl ?_
                      refine q_getf (pc' := 54) (v := .ref 65) ja_C_tell_51 rfl (by decide) ⟨rfl, by decide⟩ rfl ?_
                      refine q_getf (pc' := 57) (v := .ref 66) ja_C_tell_54 rfl (by decide) ⟨rfl, by decide⟩ rfl ?_
                      refine q_virt (pc' := 60) (c := 66) (as := []) (r := []) ja_C_tell_57 rfl rfl rfl (by decide) ⟨rfl, by decide⟩ ?_
                      refine q_in (M := jm_Motions_isFull) rfl (Nat.le_of_ble_eq_true rfl) (ls := [some (.ref 66)]) rfl ?_
                      refine q_aload_n (pc' := 1) ja_Motions_isFull_0 rfl rfl ?_
                      refine q_getf (pc' := 4) (v := .int (s 66 0)) ja_Motions_isFull_1 rfl (by decide) ⟨rfl, by decide⟩ rfl ?_
                      refine q_aload_n (pc' := 5) ja_Motions_isFull_4 rfl rfl ?_
                      refine q_getf (pc' := 8) (v := .int (s 66 1)) ja_Motions_isFull_5 rfl (by decide) ⟨rfl, by decide⟩ rfl ?_
                      refine q_ic_lt (pc' := 11) ja_Motions_isFull_8 rfl ?_ ?_
                      · intro h78
                        refine q_iconst (pc' := 16) ja_Motions_isFull_15 rfl 0 (by decide) ?_
                        refine q_iret ja_Motions_isFull_16 rfl (by decide) ?_
                        show q_W _ _ _ _ 60 [some (.ref 0), some (.int a1), some (.int a2), some (.int a3)] [.int 0] s
                        refine q_if_eq (pc' := 63) ja_C_tell_60 rfl (fun _ => ?_) (fun h => absurd ((by decide : (0 : Int32) = 0)) h)
                        refine q_aload_n (pc' := 67) ja_C_tell_66 rfl rfl ?_
                        refine q_getf (pc' := 70) (v := .ref 65) ja_C_tell_67 rfl (by decide) ⟨rfl, by decide⟩ rfl ?_
                        refine q_getf (pc' := 73) (v := .ref 66) ja_C_tell_70 rfl (by decide) ⟨rfl, by decide⟩ rfl ?_
                        refine q_iload_n (pc' := 74) ja_C_tell_73 rfl rfl ?_
                        refine q_iconst (pc' := 75) ja_C_tell_74 rfl (-1) (by decide) ?_
                        refine q_iload_n (pc' := 76) ja_C_tell_75 rfl rfl ?_
                        refine q_iload_n (pc' := 77) ja_C_tell_76 rfl rfl ?_
                        refine q_stat (pc' := 80) (as := [.int a1]) (r := [.int a2, .int (-1), .int a1, .ref 66]) ja_C_tell_77 rfl (by decide) rfl rfl ?_
                        refine q_in (M := jm_C_takesWord) rfl (Nat.le_of_ble_eq_true rfl) (ls := [some (.int a1)]) rfl ?_
                        refine q_iload_n (pc' := 1) ja_C_takesWord_0 rfl rfl ?_
                        refine q_iconst (pc' := 2) ja_C_takesWord_1 rfl 2 (by decide) ?_
                        refine q_ic_eq (pc' := 5) ja_C_takesWord_2 rfl (fun h => absurd h (h50)) (fun _ => ?_)
                        refine q_iload_n (pc' := 6) ja_C_takesWord_5 rfl rfl ?_
                        refine q_iconst (pc' := 7) ja_C_takesWord_6 rfl 3 (by decide) ?_
                        refine q_ic_ne (pc' := 10) ja_C_takesWord_7 rfl (fun _ => ?_) (fun h => absurd h (h51))
                        refine q_iconst (pc' := 15) ja_C_takesWord_14 rfl 0 (by decide) ?_
                        refine q_iret ja_C_takesWord_15 rfl (by decide) ?_
                        show q_W _ _ _ _ 80 [some (.ref 0), some (.int a1), some (.int a2), some (.int a3)] [.int 0, .int a2, .int (-1), .int a1, .ref 66] s
                        refine q_if_eq (pc' := 83) ja_C_tell_80 rfl (fun _ => ?_) (fun h => absurd ((by decide : (0 : Int32) = 0)) h)
                        refine q_iconst (pc' := 88) ja_C_tell_87 rfl (-1) (by decide) ?_
                        refine q_virt (pc' := 91) (c := 66) (as := [.int a1, .int (-1), .int a2, .int (-1)]) (r := []) ja_C_tell_88 rfl rfl rfl (by decide) ⟨rfl, by decide⟩ ?_
                        refine q_in (M := jm_Motions_push) rfl (Nat.le_of_ble_eq_true rfl) (ls := [some (.ref 66), some (.int a1), some (.int (-1)), some (.int a2), some (.int (-1))]) rfl ?_
                        refine q_aload_n (pc' := 1) ja_Motions_push_0 rfl rfl ?_
                        refine q_getf (pc' := 4) (v := .int (s 66 0)) ja_Motions_push_1 rfl (by decide) ⟨rfl, by decide⟩ rfl ?_
                        refine q_if_lt (pc' := 7) ja_Motions_push_4 rfl ?_ ?_
                        · intro h79
                          refine q_vret ja_Motions_push_14 rfl ?_
                          show q_W _ _ _ _ 91 [some (.ref 0), some (.int a1), some (.int a2), some (.int a3)] [] s
                          refine q_aload_n (pc' := 92) ja_C_tell_91 rfl rfl ?_
                          refine q_getf (pc' := 95) (v := .ref 65) ja_C_tell_92 rfl (by decide) ⟨rfl, by decide⟩ rfl ?_
                          refine q_getf (pc' := 98) (v := .ref 66) ja_C_tell_95 rfl (by decide) ⟨rfl, by decide⟩ rfl ?_
                          refine q_getf (pc' := 101) (v := .int (s 66 0)) ja_C_tell_98 rfl (by decide) ⟨rfl, by decide⟩ rfl ?_
                          exact q_iret ja_C_tell_101 rfl rfl (k62 h2 h4 h50 h51 h52 h62 h72 h73 h75 h77 h78 h79)
                        · intro h80
                          refine q_aload_n (pc' := 8) ja_Motions_push_7 rfl rfl ?_
                          refine q_virt (pc' := 11) (c := 66) (as := []) (r := []) ja_Motions_push_8 rfl rfl rfl (by decide) ⟨rfl, by decide⟩ ?_
                          refine q_in (M := jm_Motions_isFull) rfl (Nat.le_of_ble_eq_true rfl) (ls := [some (.ref 66)]) rfl ?_
                          refine q_aload_n (pc' := 1) ja_Motions_isFull_0 rfl rfl ?_
                          refine q_getf (pc' := 4) (v := .int (s 66 0)) ja_Motions_isFull_1 rfl (by decide) ⟨rfl, by decide⟩ rfl ?_
                          refine q_aload_n (pc' := 5) ja_Motions_isFull_4 rfl rfl ?_
                          refine q_getf (pc' := 8) (v := .int (s 66 1)) ja_Motions_isFull_5 rfl (by decide) ⟨rfl, by decide⟩ rfl ?_
                          refine q_ic_lt (pc' := 11) ja_Motions_isFull_8 rfl (fun _ => ?_) (fun h => absurd (h78) h)
                          refine q_iconst (pc' := 16) ja_Motions_isFull_15 rfl 0 (by decide) ?_
                          refine q_iret ja_Motions_isFull_16 rfl (by decide) ?_
                          show q_W _ _ _ _ 11 [some (.ref 66), some (.int a1), some (.int (-1)), some (.int a2), some (.int (-1))] [.int 0] s
                          refine q_if_eq (pc' := 14) ja_Motions_push_11 rfl (fun _ => ?_) (fun h => absurd ((by decide : (0 : Int32) = 0)) h)
                          refine q_aload_n (pc' := 16) ja_Motions_push_15 rfl rfl ?_
                          refine q_getf (pc' := 19) (v := .ref 67) ja_Motions_push_16 rfl (by decide) ⟨rfl, by decide⟩ rfl ?_
                          refine q_aload_n (pc' := 20) ja_Motions_push_19 rfl rfl ?_
                          refine q_getf (pc' := 23) (v := .int (s 66 0)) ja_Motions_push_20 rfl (by decide) ⟨rfl, by decide⟩ rfl ?_
                          refine q_iload_n (pc' := 24) ja_Motions_push_23 rfl rfl ?_
                          refine q_iast (pc' := 25) ja_Motions_push_24 rfl (by decide) (l := 5) rfl (k63 h2 h4 h50 h51 h52 h62 h72 h73 h75 h77 h78 h80) ?_
                          intro s31 e31
                          refine q_aload_n (pc' := 26) ja_Motions_push_25 rfl rfl ?_
                          refine q_getf (pc' := 29) (v := .ref 68) ja_Motions_push_26 rfl (by decide) ⟨rfl, by decide⟩ rfl ?_
                          refine q_aload_n (pc' := 30) ja_Motions_push_29 rfl rfl ?_
                          refine q_getf (pc' := 33) (v := .int (s31 66 0)) ja_Motions_push_30 rfl (by decide) ⟨rfl, by decide⟩ rfl ?_
                          refine q_iload_n (pc' := 34) ja_Motions_push_33 rfl rfl ?_
                          refine q_iast (pc' := 35) ja_Motions_push_34 rfl (by decide) (l := 5) rfl (k64 h2 h4 h50 h51 h52 h62 h72 h73 h75 h77 h78 h80 s31 e31) ?_
                          intro s32 e32
                          refine q_aload_n (pc' := 36) ja_Motions_push_35 rfl rfl ?_
                          refine q_getf (pc' := 39) (v := .ref 69) ja_Motions_push_36 rfl (by decide) ⟨rfl, by decide⟩ rfl ?_
                          refine q_aload_n (pc' := 40) ja_Motions_push_39 rfl rfl ?_
                          refine q_getf (pc' := 43) (v := .int (s32 66 0)) ja_Motions_push_40 rfl (by decide) ⟨rfl, by decide⟩ rfl ?_
                          refine q_iload_n (pc' := 44) ja_Motions_push_43 rfl rfl ?_
                          refine q_iast (pc' := 45) ja_Motions_push_44 rfl (by decide) (l := 5) rfl (k65 h2 h4 h50 h51 h52 h62 h72 h73 h75 h77 h78 h80 s31 e31 s32 e32) ?_
                          intro s33 e33
                          refine q_aload_n (pc' := 46) ja_Motions_push_45 rfl rfl ?_
                          refine q_getf (pc' := 49) (v := .ref 70) ja_Motions_push_46 rfl (by decide) ⟨rfl, by decide⟩ rfl ?_
                          refine q_aload_n (pc' := 50) ja_Motions_push_49 rfl rfl ?_
                          refine q_getf (pc' := 53) (v := .int (s33 66 0)) ja_Motions_push_50 rfl (by decide) ⟨rfl, by decide⟩ rfl ?_
                          refine q_iload (pc' := 55) ja_Motions_push_53 rfl rfl ?_
                          refine q_iast (pc' := 56) ja_Motions_push_55 rfl (by decide) (l := 5) rfl (k66 h2 h4 h50 h51 h52 h62 h72 h73 h75 h77 h78 h80 s31 e31 s32 e32 s33 e33) ?_
                          intro s34 e34
                          refine q_aload_n (pc' := 57) ja_Motions_push_56 rfl rfl ?_
                          refine q_dup (pc' := 58) ja_Motions_push_57 rfl rfl ?_
                          refine q_getf (pc' := 61) (v := .int (s34 66 0)) ja_Motions_push_58 rfl (by decide) ⟨rfl, by decide⟩ rfl ?_
                          refine q_iconst (pc' := 62) ja_Motions_push_61 rfl 1 (by decide) ?_
                          refine q_iadd (pc' := 63) ja_Motions_push_62 rfl ?_
                          refine q_putf (pc' := 66) ja_Motions_push_63 rfl (by decide) rfl rfl rfl ?_
                          intro s35 e35
                          refine q_vret ja_Motions_push_66 rfl ?_
                          show q_W _ _ _ _ 91 [some (.ref 0), some (.int a1), some (.int a2), some (.int a3)] [] s35
                          refine q_aload_n (pc' := 92) ja_C_tell_91 rfl rfl ?_
                          refine q_getf (pc' := 95) (v := .ref 65) ja_C_tell_92 rfl (by decide) ⟨rfl, by decide⟩ rfl ?_
                          refine q_getf (pc' := 98) (v := .ref 66) ja_C_tell_95 rfl (by decide) ⟨rfl, by decide⟩ rfl ?_
                          refine q_getf (pc' := 101) (v := .int (s35 66 0)) ja_C_tell_98 rfl (by decide) ⟨rfl, by decide⟩ rfl ?_
                          exact q_iret ja_C_tell_101 rfl rfl (k67 h2 h4 h50 h51 h52 h62 h72 h73 h75 h77 h78 h80 s31 e31 s32 e32 s33 e33 s34 e34 s35 e35)
                      · intro h81
                        refine q_iconst (pc' := 12) ja_Motions_isFull_11 rfl 1 (by decide) ?_
                        refine q_goto ja_Motions_isFull_12 ?_
                        refine q_iret ja_Motions_isFull_16 rfl (by decide) ?_
                        show q_W _ _ _ _ 60 [some (.ref 0), some (.int a1), some (.int a2), some (.int a3)] [.int 1] s
                        refine q_if_eq (pc' := 63) ja_C_tell_60 rfl (fun h => absurd h ((by decide : ¬ (1 : Int32) = 0))) (fun _ => ?_)
                        refine q_bipush (pc' := 65) ja_C_tell_63 rfl (-4) (by decide) ?_
                        exact q_iret ja_C_tell_65 rfl rfl (k68 h2 h4 h50 h51 h52 h62 h72 h73 h75 h77 h81)
                · intro h82
                  refine q_iconst (pc' := 22) ja_C_isBill_21 rfl 1 (by decide) ?_
                  refine q_goto ja_C_isBill_22 ?_
                  refine q_iret ja_C_isBill_26 rfl (by decide) ?_
                  show q_W _ _ _ _ 8 [some (.ref 0)] [.int 1] s
                  refine q_if_eq (pc' := 11) ja_C_floor_8 rfl (fun h => absurd h ((by decide : ¬ (1 : Int32) = 0))) (fun _ => ?_)
                  refine q_aload_n (pc' := 12) ja_C_floor_11 rfl rfl ?_
                  refine q_getf (pc' := 15) (v := .ref 32) ja_C_floor_12 rfl (by decide) ⟨rfl, by decide⟩ rfl ?_
                  refine q_aload_n (pc' := 16) ja_C_floor_15 rfl rfl ?_
                  refine q_getf (pc' := 19) (v := .int (s 0 6)) ja_C_floor_16 rfl (by decide) ⟨rfl, by decide⟩ rfl ?_
                  refine q_aald (pc' := 20) (v := .ref (33 + 3 * (s 0 6).toNatClampNeg)) ja_C_floor_19 rfl (by decide) (kd := 17) (l := 8) rfl (by decide) (q_inr (l := 8) (by decide) h62 h82) (f_A32 (f_in (q_inr (l := 8) (by decide) h62 h82))) ?_
                  refine q_getf (pc' := 23) (v := .ref ((33 + 3 * (s 0 6).toNatClampNeg) + 1)) ja_C_floor_20 rfl (f_1_c (f_m32 (f_in (q_inr (l := 8) (by decide) h62 h82)))) ⟨by rw [f_1_k (f_m32 (f_in (q_inr (l := 8) (by decide) h62 h82)))], by decide⟩ (f_1_g2 (f_m32 (f_in (q_inr (l := 8) (by decide) h62 h82)))) ?_
                  refine q_goto ja_C_floor_23 ?_
                  refine q_aret ja_C_floor_30 rfl ?_
                  show q_W _ _ _ _ 39 [some (.ref 0), some (.int a1), some (.int a2), some (.int a3)] [.ref ((33 + 3 * (s 0 6).toNatClampNeg) + 1)] s
                  refine q_iload_n (pc' := 40) ja_C_tell_39 rfl rfl ?_
                  refine q_iload_n (pc' := 41) ja_C_tell_40 rfl rfl ?_
                  refine q_virt (pc' := 44) (c := ((33 + 3 * (s 0 6).toNatClampNeg) + 1)) (as := [.int a1, .int a2]) (r := []) ja_C_tell_41 rfl rfl rfl (f_8_c (f_1_s2 (f_m32 (f_in (q_inr (l := 8) (by decide) h62 h82))))) ⟨by rw [f_8_k (f_1_s2 (f_m32 (f_in (q_inr (l := 8) (by decide) h62 h82))))], by decide⟩ ?_
                  refine q_in (M := jm_Sections_has) rfl (Nat.le_of_ble_eq_true rfl) (ls := [some (.ref ((33 + 3 * (s 0 6).toNatClampNeg) + 1)), some (.int a1), some (.int a2)]) rfl ?_
                  refine q_iload_n (pc' := 1) ja_Sections_has_0 rfl rfl ?_
                  refine q_if_lt (pc' := 4) ja_Sections_has_1 rfl ?_ ?_
                  · intro h83
                    refine q_iconst (pc' := 33) ja_Sections_has_32 rfl 0 (by decide) ?_
                    refine q_iret ja_Sections_has_33 rfl (by decide) ?_
                    show q_W _ _ _ _ 44 [some (.ref 0), some (.int a1), some (.int a2), some (.int a3)] [.int 0] s
                    refine q_if_ne (pc' := 47) ja_C_tell_44 rfl (fun h => absurd ((by decide : (0 : Int32) = 0)) h) (fun _ => ?_)
                    refine q_bipush (pc' := 49) ja_C_tell_47 rfl (-2) (by decide) ?_
                    exact q_iret ja_C_tell_49 rfl rfl (k69 h2 h4 h50 h51 h52 h62 h72 h82 h83)
                  · intro h84
                    refine q_iload_n (pc' := 5) ja_Sections_has_4 rfl rfl ?_
                    refine q_iconst (pc' := 6) ja_Sections_has_5 rfl 2 (by decide) ?_
                    refine q_ic_ne (pc' := 9) ja_Sections_has_6 rfl (fun _ => ?_) (fun h => absurd h (h50))
                    refine q_iload_n (pc' := 21) ja_Sections_has_20 rfl rfl ?_
                    refine q_aload_n (pc' := 22) ja_Sections_has_21 rfl rfl ?_
                    refine q_getf (pc' := 25) (v := .int (s ((33 + 3 * (s 0 6).toNatClampNeg) + 1) 0)) ja_Sections_has_22 rfl (f_8_c (f_1_s2 (f_m32 (f_in (q_inr (l := 8) (by decide) h62 h82))))) ⟨by rw [f_8_k (f_1_s2 (f_m32 (f_in (q_inr (l := 8) (by decide) h62 h82))))], by decide⟩ (f_i (f_8_k (f_1_s2 (f_m32 (f_in (q_inr (l := 8) (by decide) h62 h82))))) rfl) ?_
                    refine q_ic_ge (pc' := 28) ja_Sections_has_25 rfl ?_ ?_
                    · intro h85
                      refine q_iconst (pc' := 33) ja_Sections_has_32 rfl 0 (by decide) ?_
                      refine q_iret ja_Sections_has_33 rfl (by decide) ?_
                      show q_W _ _ _ _ 44 [some (.ref 0), some (.int a1), some (.int a2), some (.int a3)] [.int 0] s
                      refine q_if_ne (pc' := 47) ja_C_tell_44 rfl (fun h => absurd ((by decide : (0 : Int32) = 0)) h) (fun _ => ?_)
                      refine q_bipush (pc' := 49) ja_C_tell_47 rfl (-2) (by decide) ?_
                      exact q_iret ja_C_tell_49 rfl rfl (k70 h2 h4 h50 h51 h52 h62 h72 h82 h84 h85)
                    · intro h86
                      refine q_iconst (pc' := 29) ja_Sections_has_28 rfl 1 (by decide) ?_
                      refine q_goto ja_Sections_has_29 ?_
                      refine q_iret ja_Sections_has_33 rfl (by decide) ?_
                      show q_W _ _ _ _ 44 [some (.ref 0), some (.int a1), some (.int a2), some (.int a3)] [.int 1] s
                      refine q_if_ne (pc' := 47) ja_C_tell_44 rfl (fun _ => ?_) (fun h => absurd h ((by decide : ¬ (1 : Int32) = 0)))
                      refine q_aload_n (pc' := 51) ja_C_tell_50 rfl rfl ?_
                      refine q_getf (pc' := 54) (v := .ref 65) ja_C_tell_51 rfl (by decide) ⟨rfl, by decide⟩ rfl ?_
                      refine q_getf (pc' := 57) (v := .ref 66) ja_C_tell_54 rfl (by decide) ⟨rfl, by decide⟩ rfl ?_
                      refine q_virt (pc' := 60) (c := 66) (as := []) (r := []) ja_C_tell_57 rfl rfl rfl (by decide) ⟨rfl, by decide⟩ ?_
                      refine q_in (M := jm_Motions_isFull) rfl (Nat.le_of_ble_eq_true rfl) (ls := [some (.ref 66)]) rfl ?_
                      refine q_aload_n (pc' := 1) ja_Motions_isFull_0 rfl rfl ?_
                      refine q_getf (pc' := 4) (v := .int (s 66 0)) ja_Motions_isFull_1 rfl (by decide) ⟨rfl, by decide⟩ rfl ?_
                      refine q_aload_n (pc' := 5) ja_Motions_isFull_4 rfl rfl ?_
                      refine q_getf (pc' := 8) (v := .int (s 66 1)) ja_Motions_isFull_5 rfl (by decide) ⟨rfl, by decide⟩ rfl ?_
                      refine q_ic_lt (pc' := 11) ja_Motions_isFull_8 rfl ?_ ?_
                      · intro h87
                        refine q_iconst (pc' := 16) ja_Motions_isFull_15 rfl 0 (by decide) ?_
                        refine q_iret ja_Motions_isFull_16 rfl (by decide) ?_
                        show q_W _ _ _ _ 60 [some (.ref 0), some (.int a1), some (.int a2), some (.int a3)] [.int 0] s
                        refine q_if_eq (pc' := 63) ja_C_tell_60 rfl (fun _ => ?_) (fun h => absurd ((by decide : (0 : Int32) = 0)) h)
                        refine q_aload_n (pc' := 67) ja_C_tell_66 rfl rfl ?_
                        refine q_getf (pc' := 70) (v := .ref 65) ja_C_tell_67 rfl (by decide) ⟨rfl, by decide⟩ rfl ?_
                        refine q_getf (pc' := 73) (v := .ref 66) ja_C_tell_70 rfl (by decide) ⟨rfl, by decide⟩ rfl ?_
                        refine q_iload_n (pc' := 74) ja_C_tell_73 rfl rfl ?_
                        refine q_iconst (pc' := 75) ja_C_tell_74 rfl (-1) (by decide) ?_
                        refine q_iload_n (pc' := 76) ja_C_tell_75 rfl rfl ?_
                        refine q_iload_n (pc' := 77) ja_C_tell_76 rfl rfl ?_
                        refine q_stat (pc' := 80) (as := [.int a1]) (r := [.int a2, .int (-1), .int a1, .ref 66]) ja_C_tell_77 rfl (by decide) rfl rfl ?_
                        refine q_in (M := jm_C_takesWord) rfl (Nat.le_of_ble_eq_true rfl) (ls := [some (.int a1)]) rfl ?_
                        refine q_iload_n (pc' := 1) ja_C_takesWord_0 rfl rfl ?_
                        refine q_iconst (pc' := 2) ja_C_takesWord_1 rfl 2 (by decide) ?_
                        refine q_ic_eq (pc' := 5) ja_C_takesWord_2 rfl (fun h => absurd h (h50)) (fun _ => ?_)
                        refine q_iload_n (pc' := 6) ja_C_takesWord_5 rfl rfl ?_
                        refine q_iconst (pc' := 7) ja_C_takesWord_6 rfl 3 (by decide) ?_
                        refine q_ic_ne (pc' := 10) ja_C_takesWord_7 rfl (fun _ => ?_) (fun h => absurd h (h51))
                        refine q_iconst (pc' := 15) ja_C_takesWord_14 rfl 0 (by decide) ?_
                        refine q_iret ja_C_takesWord_15 rfl (by decide) ?_
                        show q_W _ _ _ _ 80 [some (.ref 0), some (.int a1), some (.int a2), some (.int a3)] [.int 0, .int a2, .int (-1), .int a1, .ref 66] s
                        refine q_if_eq (pc' := 83) ja_C_tell_80 rfl (fun _ => ?_) (fun h => absurd ((by decide : (0 : Int32) = 0)) h)
                        refine q_iconst (pc' := 88) ja_C_tell_87 rfl (-1) (by decide) ?_
                        refine q_virt (pc' := 91) (c := 66) (as := [.int a1, .int (-1), .int a2, .int (-1)]) (r := []) ja_C_tell_88 rfl rfl rfl (by decide) ⟨rfl, by decide⟩ ?_
                        refine q_in (M := jm_Motions_push) rfl (Nat.le_of_ble_eq_true rfl) (ls := [some (.ref 66), some (.int a1), some (.int (-1)), some (.int a2), some (.int (-1))]) rfl ?_
                        refine q_aload_n (pc' := 1) ja_Motions_push_0 rfl rfl ?_
                        refine q_getf (pc' := 4) (v := .int (s 66 0)) ja_Motions_push_1 rfl (by decide) ⟨rfl, by decide⟩ rfl ?_
                        refine q_if_lt (pc' := 7) ja_Motions_push_4 rfl ?_ ?_
                        · intro h88
                          refine q_vret ja_Motions_push_14 rfl ?_
                          show q_W _ _ _ _ 91 [some (.ref 0), some (.int a1), some (.int a2), some (.int a3)] [] s
                          refine q_aload_n (pc' := 92) ja_C_tell_91 rfl rfl ?_
                          refine q_getf (pc' := 95) (v := .ref 65) ja_C_tell_92 rfl (by decide) ⟨rfl, by decide⟩ rfl ?_
                          refine q_getf (pc' := 98) (v := .ref 66) ja_C_tell_95 rfl (by decide) ⟨rfl, by decide⟩ rfl ?_
                          refine q_getf (pc' := 101) (v := .int (s 66 0)) ja_C_tell_98 rfl (by decide) ⟨rfl, by decide⟩ rfl ?_
                          exact q_iret ja_C_tell_101 rfl rfl (k71 h2 h4 h50 h51 h52 h62 h72 h82 h84 h86 h87 h88)
                        · intro h89
                          refine q_aload_n (pc' := 8) ja_Motions_push_7 rfl rfl ?_
                          refine q_virt (pc' := 11) (c := 66) (as := []) (r := []) ja_Motions_push_8 rfl rfl rfl (by decide) ⟨rfl, by decide⟩ ?_
                          refine q_in (M := jm_Motions_isFull) rfl (Nat.le_of_ble_eq_true rfl) (ls := [some (.ref 66)]) rfl ?_
                          refine q_aload_n (pc' := 1) ja_Motions_isFull_0 rfl rfl ?_
                          refine q_getf (pc' := 4) (v := .int (s 66 0)) ja_Motions_isFull_1 rfl (by decide) ⟨rfl, by decide⟩ rfl ?_
                          refine q_aload_n (pc' := 5) ja_Motions_isFull_4 rfl rfl ?_
                          refine q_getf (pc' := 8) (v := .int (s 66 1)) ja_Motions_isFull_5 rfl (by decide) ⟨rfl, by decide⟩ rfl ?_
                          refine q_ic_lt (pc' := 11) ja_Motions_isFull_8 rfl (fun _ => ?_) (fun h => absurd (h87) h)
                          refine q_iconst (pc' := 16) ja_Motions_isFull_15 rfl 0 (by decide) ?_
                          refine q_iret ja_Motions_isFull_16 rfl (by decide) ?_
                          show q_W _ _ _ _ 11 [some (.ref 66), some (.int a1), some (.int (-1)), some (.int a2), some (.int (-1))] [.int 0] s
                          refine q_if_eq (pc' := 14) ja_Motions_push_11 rfl (fun _ => ?_) (fun h => absurd ((by decide : (0 : Int32) = 0)) h)
                          refine q_aload_n (pc' := 16) ja_Motions_push_15 rfl rfl ?_
                          refine q_getf (pc' := 19) (v := .ref 67) ja_Motions_push_16 rfl (by decide) ⟨rfl, by decide⟩ rfl ?_
                          refine q_aload_n (pc' := 20) ja_Motions_push_19 rfl rfl ?_
                          refine q_getf (pc' := 23) (v := .int (s 66 0)) ja_Motions_push_20 rfl (by decide) ⟨rfl, by decide⟩ rfl ?_
                          refine q_iload_n (pc' := 24) ja_Motions_push_23 rfl rfl ?_
                          refine q_iast (pc' := 25) ja_Motions_push_24 rfl (by decide) (l := 5) rfl (k72 h2 h4 h50 h51 h52 h62 h72 h82 h84 h86 h87 h89) ?_
                          intro s36 e36
                          refine q_aload_n (pc' := 26) ja_Motions_push_25 rfl rfl ?_
                          refine q_getf (pc' := 29) (v := .ref 68) ja_Motions_push_26 rfl (by decide) ⟨rfl, by decide⟩ rfl ?_
                          refine q_aload_n (pc' := 30) ja_Motions_push_29 rfl rfl ?_
                          refine q_getf (pc' := 33) (v := .int (s36 66 0)) ja_Motions_push_30 rfl (by decide) ⟨rfl, by decide⟩ rfl ?_
                          refine q_iload_n (pc' := 34) ja_Motions_push_33 rfl rfl ?_
                          refine q_iast (pc' := 35) ja_Motions_push_34 rfl (by decide) (l := 5) rfl (k73 h2 h4 h50 h51 h52 h62 h72 h82 h84 h86 h87 h89 s36 e36) ?_
                          intro s37 e37
                          refine q_aload_n (pc' := 36) ja_Motions_push_35 rfl rfl ?_
                          refine q_getf (pc' := 39) (v := .ref 69) ja_Motions_push_36 rfl (by decide) ⟨rfl, by decide⟩ rfl ?_
                          refine q_aload_n (pc' := 40) ja_Motions_push_39 rfl rfl ?_
                          refine q_getf (pc' := 43) (v := .int (s37 66 0)) ja_Motions_push_40 rfl (by decide) ⟨rfl, by decide⟩ rfl ?_
                          refine q_iload_n (pc' := 44) ja_Motions_push_43 rfl rfl ?_
                          refine q_iast (pc' := 45) ja_Motions_push_44 rfl (by decide) (l := 5) rfl (k74 h2 h4 h50 h51 h52 h62 h72 h82 h84 h86 h87 h89 s36 e36 s37 e37) ?_
                          intro s38 e38
                          refine q_aload_n (pc' := 46) ja_Motions_push_45 rfl rfl ?_
                          refine q_getf (pc' := 49) (v := .ref 70) ja_Motions_push_46 rfl (by decide) ⟨rfl, by decide⟩ rfl ?_
                          refine q_aload_n (pc' := 50) ja_Motions_push_49 rfl rfl ?_
                          refine q_getf (pc' := 53) (v := .int (s38 66 0)) ja_Motions_push_50 rfl (by decide) ⟨rfl, by decide⟩ rfl ?_
                          refine q_iload (pc' := 55) ja_Motions_push_53 rfl rfl ?_
                          refine q_iast (pc' := 56) ja_Motions_push_55 rfl (by decide) (l := 5) rfl (k75 h2 h4 h50 h51 h52 h62 h72 h82 h84 h86 h87 h89 s36 e36 s37 e37 s38 e38) ?_
                          intro s39 e39
                          refine q_aload_n (pc' := 57) ja_Motions_push_56 rfl rfl ?_
                          refine q_dup (pc' := 58) ja_Motions_push_57 rfl rfl ?_
                          refine q_getf (pc' := 61) (v := .int (s39 66 0)) ja_Motions_push_58 rfl (by decide) ⟨rfl, by decide⟩ rfl ?_
                          refine q_iconst (pc' := 62) ja_Motions_push_61 rfl 1 (by decide) ?_
                          refine q_iadd (pc' := 63) ja_Motions_push_62 rfl ?_
                          refine q_putf (pc' := 66) ja_Motions_push_63 rfl (by decide) rfl rfl rfl ?_
                          intro s40 e40
                          refine q_vret ja_Motions_push_66 rfl ?_
                          show q_W _ _ _ _ 91 [some (.ref 0), some (.int a1), some (.int a2), some (.int a3)] [] s40
                          refine q_aload_n (pc' := 92) ja_C_tell_91 rfl rfl ?_
                          refine q_getf (pc' := 95) (v := .ref 65) ja_C_tell_92 rfl (by decide) ⟨rfl, by decide⟩ rfl ?_
                          refine q_getf (pc' := 98) (v := .ref 66) ja_C_tell_95 rfl (by decide) ⟨rfl, by decide⟩ rfl ?_
                          refine q_getf (pc' := 101) (v := .int (s40 66 0)) ja_C_tell_98 rfl (by decide) ⟨rfl, by decide⟩ rfl ?_
                          exact q_iret ja_C_tell_101 rfl rfl (k76 h2 h4 h50 h51 h52 h62 h72 h82 h84 h86 h87 h89 s36 e36 s37 e37 s38 e38 s39 e39 s40 e40)
                      · intro h90
                        refine q_iconst (pc' := 12) ja_Motions_isFull_11 rfl 1 (by decide) ?_
                        refine q_goto ja_Motions_isFull_12 ?_
                        refine q_iret ja_Motions_isFull_16 rfl (by decide) ?_
                        show q_W _ _ _ _ 60 [some (.ref 0), some (.int a1), some (.int a2), some (.int a3)] [.int 1] s
                        refine q_if_eq (pc' := 63) ja_C_tell_60 rfl (fun h => absurd h ((by decide : ¬ (1 : Int32) = 0))) (fun _ => ?_)
                        refine q_bipush (pc' := 65) ja_C_tell_63 rfl (-4) (by decide) ?_
                        exact q_iret ja_C_tell_65 rfl rfl (k77 h2 h4 h50 h51 h52 h62 h72 h82 h84 h86 h90)
          · intro h91
            refine q_bipush (pc' := 34) ja_C_tell_32 rfl (-3) (by decide) ?_
            exact q_iret ja_C_tell_34 rfl rfl (k78 h2 h4 h50 h51 h91)
        · intro h92
          refine q_iconst (pc' := 11) ja_C_takesWord_10 rfl 1 (by decide) ?_
          refine q_goto ja_C_takesWord_11 ?_
          refine q_iret ja_C_takesWord_15 rfl (by decide) ?_
          show q_W _ _ _ _ 11 [some (.ref 0), some (.int a1), some (.int a2), some (.int a3)] [.int 1] s
          refine q_if_eq (pc' := 14) ja_C_tell_11 rfl (fun h => absurd h ((by decide : ¬ (1 : Int32) = 0))) (fun _ => ?_)
          refine q_iload_n (pc' := 15) ja_C_tell_14 rfl rfl ?_
          refine q_stat (pc' := 18) (as := [.int a3]) (r := []) ja_C_tell_15 rfl (by decide) rfl rfl ?_
          refine q_in (M := jm_C_isWord) rfl (Nat.le_of_ble_eq_true rfl) (ls := [some (.int a3)]) rfl ?_
          refine q_iload_n (pc' := 1) ja_C_isWord_0 rfl rfl ?_
          refine q_iconst (pc' := 2) ja_C_isWord_1 rfl 1 (by decide) ?_
          refine q_ic_lt (pc' := 5) ja_C_isWord_2 rfl ?_ ?_
          · intro h93
            refine q_iconst (pc' := 16) ja_C_isWord_15 rfl 0 (by decide) ?_
            refine q_iret ja_C_isWord_16 rfl (by decide) ?_
            show q_W _ _ _ _ 18 [some (.ref 0), some (.int a1), some (.int a2), some (.int a3)] [.int 0] s
            refine q_if_ne (pc' := 21) ja_C_tell_18 rfl (fun h => absurd ((by decide : (0 : Int32) = 0)) h) (fun _ => ?_)
            refine q_bipush (pc' := 23) ja_C_tell_21 rfl (-2) (by decide) ?_
            exact q_iret ja_C_tell_23 rfl rfl (k79 h2 h4 h50 h92 h93)
          · intro h94
            refine q_iload_n (pc' := 6) ja_C_isWord_5 rfl rfl ?_
            refine q_bipush (pc' := 8) ja_C_isWord_6 rfl 60 (by decide) ?_
            refine q_ic_gt (pc' := 11) ja_C_isWord_8 rfl ?_ ?_
            · intro h95
              refine q_iconst (pc' := 16) ja_C_isWord_15 rfl 0 (by decide) ?_
              refine q_iret ja_C_isWord_16 rfl (by decide) ?_
              show q_W _ _ _ _ 18 [some (.ref 0), some (.int a1), some (.int a2), some (.int a3)] [.int 0] s
              refine q_if_ne (pc' := 21) ja_C_tell_18 rfl (fun h => absurd ((by decide : (0 : Int32) = 0)) h) (fun _ => ?_)
              refine q_bipush (pc' := 23) ja_C_tell_21 rfl (-2) (by decide) ?_
              exact q_iret ja_C_tell_23 rfl rfl (k80 h2 h4 h50 h92 h94 h95)
            · intro h96
              refine q_iconst (pc' := 12) ja_C_isWord_11 rfl 1 (by decide) ?_
              refine q_goto ja_C_isWord_12 ?_
              refine q_iret ja_C_isWord_16 rfl (by decide) ?_
              show q_W _ _ _ _ 18 [some (.ref 0), some (.int a1), some (.int a2), some (.int a3)] [.int 1] s
              refine q_if_ne (pc' := 21) ja_C_tell_18 rfl (fun _ => ?_) (fun h => absurd h ((by decide : ¬ (1 : Int32) = 0)))
              refine q_aload_n (pc' := 25) ja_C_tell_24 rfl rfl ?_
              refine q_getf (pc' := 28) (v := .int (s 0 6)) ja_C_tell_25 rfl (by decide) ⟨rfl, by decide⟩ rfl ?_
              refine q_iconst (pc' := 29) ja_C_tell_28 rfl (-1) (by decide) ?_
              refine q_ic_ne (pc' := 32) ja_C_tell_29 rfl ?_ ?_
              · intro h97
                refine q_aload_n (pc' := 36) ja_C_tell_35 rfl rfl ?_
                refine q_virt (pc' := 39) (c := 0) (as := []) (r := []) ja_C_tell_36 rfl rfl rfl (by decide) ⟨rfl, by decide⟩ ?_
                refine q_in (M := jm_C_floor) rfl (Nat.le_of_ble_eq_true rfl) (ls := [some (.ref 0)]) rfl ?_
                refine q_aload_n (pc' := 1) ja_C_floor_0 rfl rfl ?_
                refine q_aload_n (pc' := 2) ja_C_floor_1 rfl rfl ?_
                refine q_getf (pc' := 5) (v := .int (s 0 6)) ja_C_floor_2 rfl (by decide) ⟨rfl, by decide⟩ rfl ?_
                refine q_virt (pc' := 8) (c := 0) (as := [.int (s 0 6)]) (r := []) ja_C_floor_5 rfl rfl rfl (by decide) ⟨rfl, by decide⟩ ?_
                refine q_in (M := jm_C_isBill) rfl (Nat.le_of_ble_eq_true rfl) (ls := [some (.ref 0), some (.int (s 0 6))]) rfl ?_
                refine q_iload_n (pc' := 1) ja_C_isBill_0 rfl rfl ?_
                refine q_if_lt (pc' := 4) ja_C_isBill_1 rfl ?_ ?_
                · intro h98
                  refine q_iconst (pc' := 26) ja_C_isBill_25 rfl 0 (by decide) ?_
                  refine q_iret ja_C_isBill_26 rfl (by decide) ?_
                  show q_W _ _ _ _ 8 [some (.ref 0)] [.int 0] s
                  refine q_if_eq (pc' := 11) ja_C_floor_8 rfl (fun _ => ?_) (fun h => absurd ((by decide : (0 : Int32) = 0)) h)
                  refine q_aload_n (pc' := 27) ja_C_floor_26 rfl rfl ?_
                  refine q_getf (pc' := 30) (v := .ref 58) ja_C_floor_27 rfl (by decide) ⟨rfl, by decide⟩ rfl ?_
                  refine q_aret ja_C_floor_30 rfl ?_
                  show q_W _ _ _ _ 39 [some (.ref 0), some (.int a1), some (.int a2), some (.int a3)] [.ref 58] s
                  refine q_iload_n (pc' := 40) ja_C_tell_39 rfl rfl ?_
                  refine q_iload_n (pc' := 41) ja_C_tell_40 rfl rfl ?_
                  refine q_virt (pc' := 44) (c := 58) (as := [.int a1, .int a2]) (r := []) ja_C_tell_41 rfl rfl rfl (by decide) ⟨rfl, by decide⟩ ?_
                  refine q_in (M := jm_Sections_has) rfl (Nat.le_of_ble_eq_true rfl) (ls := [some (.ref 58), some (.int a1), some (.int a2)]) rfl ?_
                  refine q_iload_n (pc' := 1) ja_Sections_has_0 rfl rfl ?_
                  refine q_if_lt (pc' := 4) ja_Sections_has_1 rfl ?_ ?_
                  · intro h99
                    refine q_iconst (pc' := 33) ja_Sections_has_32 rfl 0 (by decide) ?_
                    refine q_iret ja_Sections_has_33 rfl (by decide) ?_
                    show q_W _ _ _ _ 44 [some (.ref 0), some (.int a1), some (.int a2), some (.int a3)] [.int 0] s
                    refine q_if_ne (pc' := 47) ja_C_tell_44 rfl (fun h => absurd ((by decide : (0 : Int32) = 0)) h) (fun _ => ?_)
                    refine q_bipush (pc' := 49) ja_C_tell_47 rfl (-2) (by decide) ?_
                    exact q_iret ja_C_tell_49 rfl rfl (k81 h2 h4 h50 h92 h94 h96 h97 h98 h99)
                  · intro h100
                    refine q_iload_n (pc' := 5) ja_Sections_has_4 rfl rfl ?_
                    refine q_iconst (pc' := 6) ja_Sections_has_5 rfl 2 (by decide) ?_
                    refine q_ic_ne (pc' := 9) ja_Sections_has_6 rfl (fun _ => ?_) (fun h => absurd h (h50))
                    refine q_iload_n (pc' := 21) ja_Sections_has_20 rfl rfl ?_
                    refine q_aload_n (pc' := 22) ja_Sections_has_21 rfl rfl ?_
                    refine q_getf (pc' := 25) (v := .int (s 58 0)) ja_Sections_has_22 rfl (by decide) ⟨rfl, by decide⟩ rfl ?_
                    refine q_ic_ge (pc' := 28) ja_Sections_has_25 rfl ?_ ?_
                    · intro h101
                      refine q_iconst (pc' := 33) ja_Sections_has_32 rfl 0 (by decide) ?_
                      refine q_iret ja_Sections_has_33 rfl (by decide) ?_
                      show q_W _ _ _ _ 44 [some (.ref 0), some (.int a1), some (.int a2), some (.int a3)] [.int 0] s
                      refine q_if_ne (pc' := 47) ja_C_tell_44 rfl (fun h => absurd ((by decide : (0 : Int32) = 0)) h) (fun _ => ?_)
                      refine q_bipush (pc' := 49) ja_C_tell_47 rfl (-2) (by decide) ?_
                      exact q_iret ja_C_tell_49 rfl rfl (k82 h2 h4 h50 h92 h94 h96 h97 h98 h100 h101)
                    · intro h102
                      refine q_iconst (pc' := 29) ja_Sections_has_28 rfl 1 (by decide) ?_
                      refine q_goto ja_Sections_has_29 ?_
                      refine q_iret ja_Sections_has_33 rfl (by decide) ?_
                      show q_W _ _ _ _ 44 [some (.ref 0), some (.int a1), some (.int a2), some (.int a3)] [.int 1] s
                      refine q_if_ne (pc' := 47) ja_C_tell_44 rfl (fun _ => ?_) (fun h => absurd h ((by decide : ¬ (1 : Int32) = 0)))
                      refine q_aload_n (pc' := 51) ja_C_tell_50 rfl rfl ?_
                      refine q_getf (pc' := 54) (v := .ref 65) ja_C_tell_51 rfl (by decide) ⟨rfl, by decide⟩ rfl ?_
                      refine q_getf (pc' := 57) (v := .ref 66) ja_C_tell_54 rfl (by decide) ⟨rfl, by decide⟩ rfl ?_
                      refine q_virt (pc' := 60) (c := 66) (as := []) (r := []) ja_C_tell_57 rfl rfl rfl (by decide) ⟨rfl, by decide⟩ ?_
                      refine q_in (M := jm_Motions_isFull) rfl (Nat.le_of_ble_eq_true rfl) (ls := [some (.ref 66)]) rfl ?_
                      refine q_aload_n (pc' := 1) ja_Motions_isFull_0 rfl rfl ?_
                      refine q_getf (pc' := 4) (v := .int (s 66 0)) ja_Motions_isFull_1 rfl (by decide) ⟨rfl, by decide⟩ rfl ?_
                      refine q_aload_n (pc' := 5) ja_Motions_isFull_4 rfl rfl ?_
                      refine q_getf (pc' := 8) (v := .int (s 66 1)) ja_Motions_isFull_5 rfl (by decide) ⟨rfl, by decide⟩ rfl ?_
                      refine q_ic_lt (pc' := 11) ja_Motions_isFull_8 rfl ?_ ?_
                      · intro h103
                        refine q_iconst (pc' := 16) ja_Motions_isFull_15 rfl 0 (by decide) ?_
                        refine q_iret ja_Motions_isFull_16 rfl (by decide) ?_
                        show q_W _ _ _ _ 60 [some (.ref 0), some (.int a1), some (.int a2), some (.int a3)] [.int 0] s
                        refine q_if_eq (pc' := 63) ja_C_tell_60 rfl (fun _ => ?_) (fun h => absurd ((by decide : (0 : Int32) = 0)) h)
                        refine q_aload_n (pc' := 67) ja_C_tell_66 rfl rfl ?_
                        refine q_getf (pc' := 70) (v := .ref 65) ja_C_tell_67 rfl (by decide) ⟨rfl, by decide⟩ rfl ?_
                        refine q_getf (pc' := 73) (v := .ref 66) ja_C_tell_70 rfl (by decide) ⟨rfl, by decide⟩ rfl ?_
                        refine q_iload_n (pc' := 74) ja_C_tell_73 rfl rfl ?_
                        refine q_iconst (pc' := 75) ja_C_tell_74 rfl (-1) (by decide) ?_
                        refine q_iload_n (pc' := 76) ja_C_tell_75 rfl rfl ?_
                        refine q_iload_n (pc' := 77) ja_C_tell_76 rfl rfl ?_
                        refine q_stat (pc' := 80) (as := [.int a1]) (r := [.int a2, .int (-1), .int a1, .ref 66]) ja_C_tell_77 rfl (by decide) rfl rfl ?_
                        refine q_in (M := jm_C_takesWord) rfl (Nat.le_of_ble_eq_true rfl) (ls := [some (.int a1)]) rfl ?_
                        refine q_iload_n (pc' := 1) ja_C_takesWord_0 rfl rfl ?_
                        refine q_iconst (pc' := 2) ja_C_takesWord_1 rfl 2 (by decide) ?_
                        refine q_ic_eq (pc' := 5) ja_C_takesWord_2 rfl (fun h => absurd h (h50)) (fun _ => ?_)
                        refine q_iload_n (pc' := 6) ja_C_takesWord_5 rfl rfl ?_
                        refine q_iconst (pc' := 7) ja_C_takesWord_6 rfl 3 (by decide) ?_
                        refine q_ic_ne (pc' := 10) ja_C_takesWord_7 rfl (fun h => absurd (h92) h) (fun _ => ?_)
                        refine q_iconst (pc' := 11) ja_C_takesWord_10 rfl 1 (by decide) ?_
                        refine q_goto ja_C_takesWord_11 ?_
                        refine q_iret ja_C_takesWord_15 rfl (by decide) ?_
                        show q_W _ _ _ _ 80 [some (.ref 0), some (.int a1), some (.int a2), some (.int a3)] [.int 1, .int a2, .int (-1), .int a1, .ref 66] s
                        refine q_if_eq (pc' := 83) ja_C_tell_80 rfl (fun h => absurd h ((by decide : ¬ (1 : Int32) = 0))) (fun _ => ?_)
                        refine q_iload_n (pc' := 84) ja_C_tell_83 rfl rfl ?_
                        refine q_goto ja_C_tell_84 ?_
                        refine q_virt (pc' := 91) (c := 66) (as := [.int a1, .int (-1), .int a2, .int a3]) (r := []) ja_C_tell_88 rfl rfl rfl (by decide) ⟨rfl, by decide⟩ ?_
                        refine q_in (M := jm_Motions_push) rfl (Nat.le_of_ble_eq_true rfl) (ls := [some (.ref 66), some (.int a1), some (.int (-1)), some (.int a2), some (.int a3)]) rfl ?_
                        refine q_aload_n (pc' := 1) ja_Motions_push_0 rfl rfl ?_
                        refine q_getf (pc' := 4) (v := .int (s 66 0)) ja_Motions_push_1 rfl (by decide) ⟨rfl, by decide⟩ rfl ?_
                        refine q_if_lt (pc' := 7) ja_Motions_push_4 rfl ?_ ?_
                        · intro h104
                          refine q_vret ja_Motions_push_14 rfl ?_
                          show q_W _ _ _ _ 91 [some (.ref 0), some (.int a1), some (.int a2), some (.int a3)] [] s
                          refine q_aload_n (pc' := 92) ja_C_tell_91 rfl rfl ?_
                          refine q_getf (pc' := 95) (v := .ref 65) ja_C_tell_92 rfl (by decide) ⟨rfl, by decide⟩ rfl ?_
                          refine q_getf (pc' := 98) (v := .ref 66) ja_C_tell_95 rfl (by decide) ⟨rfl, by decide⟩ rfl ?_
                          refine q_getf (pc' := 101) (v := .int (s 66 0)) ja_C_tell_98 rfl (by decide) ⟨rfl, by decide⟩ rfl ?_
                          exact q_iret ja_C_tell_101 rfl rfl (k83 h2 h4 h50 h92 h94 h96 h97 h98 h100 h102 h103 h104)
                        · intro h105
                          refine q_aload_n (pc' := 8) ja_Motions_push_7 rfl rfl ?_
                          refine q_virt (pc' := 11) (c := 66) (as := []) (r := []) ja_Motions_push_8 rfl rfl rfl (by decide) ⟨rfl, by decide⟩ ?_
                          refine q_in (M := jm_Motions_isFull) rfl (Nat.le_of_ble_eq_true rfl) (ls := [some (.ref 66)]) rfl ?_
                          refine q_aload_n (pc' := 1) ja_Motions_isFull_0 rfl rfl ?_
                          refine q_getf (pc' := 4) (v := .int (s 66 0)) ja_Motions_isFull_1 rfl (by decide) ⟨rfl, by decide⟩ rfl ?_
                          refine q_aload_n (pc' := 5) ja_Motions_isFull_4 rfl rfl ?_
                          refine q_getf (pc' := 8) (v := .int (s 66 1)) ja_Motions_isFull_5 rfl (by decide) ⟨rfl, by decide⟩ rfl ?_
                          refine q_ic_lt (pc' := 11) ja_Motions_isFull_8 rfl (fun _ => ?_) (fun h => absurd (h103) h)
                          refine q_iconst (pc' := 16) ja_Motions_isFull_15 rfl 0 (by decide) ?_
                          refine q_iret ja_Motions_isFull_16 rfl (by decide) ?_
                          show q_W _ _ _ _ 11 [some (.ref 66), some (.int a1), some (.int (-1)), some (.int a2), some (.int a3)] [.int 0] s
                          refine q_if_eq (pc' := 14) ja_Motions_push_11 rfl (fun _ => ?_) (fun h => absurd ((by decide : (0 : Int32) = 0)) h)
                          refine q_aload_n (pc' := 16) ja_Motions_push_15 rfl rfl ?_
                          refine q_getf (pc' := 19) (v := .ref 67) ja_Motions_push_16 rfl (by decide) ⟨rfl, by decide⟩ rfl ?_
                          refine q_aload_n (pc' := 20) ja_Motions_push_19 rfl rfl ?_
                          refine q_getf (pc' := 23) (v := .int (s 66 0)) ja_Motions_push_20 rfl (by decide) ⟨rfl, by decide⟩ rfl ?_
                          refine q_iload_n (pc' := 24) ja_Motions_push_23 rfl rfl ?_
                          refine q_iast (pc' := 25) ja_Motions_push_24 rfl (by decide) (l := 5) rfl (k84 h2 h4 h50 h92 h94 h96 h97 h98 h100 h102 h103 h105) ?_
                          intro s41 e41
                          refine q_aload_n (pc' := 26) ja_Motions_push_25 rfl rfl ?_
                          refine q_getf (pc' := 29) (v := .ref 68) ja_Motions_push_26 rfl (by decide) ⟨rfl, by decide⟩ rfl ?_
                          refine q_aload_n (pc' := 30) ja_Motions_push_29 rfl rfl ?_
                          refine q_getf (pc' := 33) (v := .int (s41 66 0)) ja_Motions_push_30 rfl (by decide) ⟨rfl, by decide⟩ rfl ?_
                          refine q_iload_n (pc' := 34) ja_Motions_push_33 rfl rfl ?_
                          refine q_iast (pc' := 35) ja_Motions_push_34 rfl (by decide) (l := 5) rfl (k85 h2 h4 h50 h92 h94 h96 h97 h98 h100 h102 h103 h105 s41 e41) ?_
                          intro s42 e42
                          refine q_aload_n (pc' := 36) ja_Motions_push_35 rfl rfl ?_
                          refine q_getf (pc' := 39) (v := .ref 69) ja_Motions_push_36 rfl (by decide) ⟨rfl, by decide⟩ rfl ?_
                          refine q_aload_n (pc' := 40) ja_Motions_push_39 rfl rfl ?_
                          refine q_getf (pc' := 43) (v := .int (s42 66 0)) ja_Motions_push_40 rfl (by decide) ⟨rfl, by decide⟩ rfl ?_
                          refine q_iload_n (pc' := 44) ja_Motions_push_43 rfl rfl ?_
                          refine q_iast (pc' := 45) ja_Motions_push_44 rfl (by decide) (l := 5) rfl (k86 h2 h4 h50 h92 h94 h96 h97 h98 h100 h102 h103 h105 s41 e41 s42 e42) ?_
                          intro s43 e43
                          refine q_aload_n (pc' := 46) ja_Motions_push_45 rfl rfl ?_
                          refine q_getf (pc' := 49) (v := .ref 70) ja_Motions_push_46 rfl (by decide) ⟨rfl, by decide⟩ rfl ?_
                          refine q_aload_n (pc' := 50) ja_Motions_push_49 rfl rfl ?_
                          refine q_getf (pc' := 53) (v := .int (s43 66 0)) ja_Motions_push_50 rfl (by decide) ⟨rfl, by decide⟩ rfl ?_
                          refine q_iload (pc' := 55) ja_Motions_push_53 rfl rfl ?_
                          refine q_iast (pc' := 56) ja_Motions_push_55 rfl (by decide) (l := 5) rfl (k87 h2 h4 h50 h92 h94 h96 h97 h98 h100 h102 h103 h105 s41 e41 s42 e42 s43 e43) ?_
                          intro s44 e44
                          refine q_aload_n (pc' := 57) ja_Motions_push_56 rfl rfl ?_
                          refine q_dup (pc' := 58) ja_Motions_push_57 rfl rfl ?_
                          refine q_getf (pc' := 61) (v := .int (s44 66 0)) ja_Motions_push_58 rfl (by decide) ⟨rfl, by decide⟩ rfl ?_
                          refine q_iconst (pc' := 62) ja_Motions_push_61 rfl 1 (by decide) ?_
                          refine q_iadd (pc' := 63) ja_Motions_push_62 rfl ?_
                          refine q_putf (pc' := 66) ja_Motions_push_63 rfl (by decide) rfl rfl rfl ?_
                          intro s45 e45
                          refine q_vret ja_Motions_push_66 rfl ?_
                          show q_W _ _ _ _ 91 [some (.ref 0), some (.int a1), some (.int a2), some (.int a3)] [] s45
                          refine q_aload_n (pc' := 92) ja_C_tell_91 rfl rfl ?_
                          refine q_getf (pc' := 95) (v := .ref 65) ja_C_tell_92 rfl (by decide) ⟨rfl, by decide⟩ rfl ?_
                          refine q_getf (pc' := 98) (v := .ref 66) ja_C_tell_95 rfl (by decide) ⟨rfl, by decide⟩ rfl ?_
                          refine q_getf (pc' := 101) (v := .int (s45 66 0)) ja_C_tell_98 rfl (by decide) ⟨rfl, by decide⟩ rfl ?_
                          exact q_iret ja_C_tell_101 rfl rfl (k88 h2 h4 h50 h92 h94 h96 h97 h98 h100 h102 h103 h105 s41 e41 s42 e42 s43 e43 s44 e44 s45 e45)
                      · intro h106
                        refine q_iconst (pc' := 12) ja_Motions_isFull_11 rfl 1 (by decide) ?_
                        refine q_goto ja_Motions_isFull_12 ?_
                        refine q_iret ja_Motions_isFull_16 rfl (by decide) ?_
                        show q_W _ _ _ _ 60 [some (.ref 0), some (.int a1), some (.int a2), some (.int a3)] [.int 1] s
                        refine q_if_eq (pc' := 63) ja_C_tell_60 rfl (fun h => absurd h ((by decide : ¬ (1 : Int32) = 0))) (fun _ => ?_)
                        refine q_bipush (pc' := 65) ja_C_tell_63 rfl (-4) (by decide) ?_
                        exact q_iret ja_C_tell_65 rfl rfl (k89 h2 h4 h50 h92 h94 h96 h97 h98 h100 h102 h106)
                · intro h107
                  refine q_iload_n (pc' := 5) ja_C_isBill_4 rfl rfl ?_
                  refine q_aload_n (pc' := 6) ja_C_isBill_5 rfl rfl ?_
                  refine q_getf (pc' := 9) (v := .int (s 0 3)) ja_C_isBill_6 rfl (by decide) ⟨rfl, by decide⟩ rfl ?_
                  refine q_ic_ge (pc' := 12) ja_C_isBill_9 rfl ?_ ?_
                  · intro h108
                    refine q_iconst (pc' := 26) ja_C_isBill_25 rfl 0 (by decide) ?_
                    refine q_iret ja_C_isBill_26 rfl (by decide) ?_
                    show q_W _ _ _ _ 8 [some (.ref 0)] [.int 0] s
                    refine q_if_eq (pc' := 11) ja_C_floor_8 rfl (fun _ => ?_) (fun h => absurd ((by decide : (0 : Int32) = 0)) h)
                    refine q_aload_n (pc' := 27) ja_C_floor_26 rfl rfl ?_
                    refine q_getf (pc' := 30) (v := .ref 58) ja_C_floor_27 rfl (by decide) ⟨rfl, by decide⟩ rfl ?_
                    refine q_aret ja_C_floor_30 rfl ?_
                    show q_W _ _ _ _ 39 [some (.ref 0), some (.int a1), some (.int a2), some (.int a3)] [.ref 58] s
                    refine q_iload_n (pc' := 40) ja_C_tell_39 rfl rfl ?_
                    refine q_iload_n (pc' := 41) ja_C_tell_40 rfl rfl ?_
                    refine q_virt (pc' := 44) (c := 58) (as := [.int a1, .int a2]) (r := []) ja_C_tell_41 rfl rfl rfl (by decide) ⟨rfl, by decide⟩ ?_
                    refine q_in (M := jm_Sections_has) rfl (Nat.le_of_ble_eq_true rfl) (ls := [some (.ref 58), some (.int a1), some (.int a2)]) rfl ?_
                    refine q_iload_n (pc' := 1) ja_Sections_has_0 rfl rfl ?_
                    refine q_if_lt (pc' := 4) ja_Sections_has_1 rfl ?_ ?_
                    · intro h109
                      refine q_iconst (pc' := 33) ja_Sections_has_32 rfl 0 (by decide) ?_
                      refine q_iret ja_Sections_has_33 rfl (by decide) ?_
                      show q_W _ _ _ _ 44 [some (.ref 0), some (.int a1), some (.int a2), some (.int a3)] [.int 0] s
                      refine q_if_ne (pc' := 47) ja_C_tell_44 rfl (fun h => absurd ((by decide : (0 : Int32) = 0)) h) (fun _ => ?_)
                      refine q_bipush (pc' := 49) ja_C_tell_47 rfl (-2) (by decide) ?_
                      exact q_iret ja_C_tell_49 rfl rfl (k90 h2 h4 h50 h92 h94 h96 h97 h107 h108 h109)
                    · intro h110
                      refine q_iload_n (pc' := 5) ja_Sections_has_4 rfl rfl ?_
                      refine q_iconst (pc' := 6) ja_Sections_has_5 rfl 2 (by decide) ?_
                      refine q_ic_ne (pc' := 9) ja_Sections_has_6 rfl (fun _ => ?_) (fun h => absurd h (h50))
                      refine q_iload_n (pc' := 21) ja_Sections_has_20 rfl rfl ?_
                      refine q_aload_n (pc' := 22) ja_Sections_has_21 rfl rfl ?_
                      refine q_getf (pc' := 25) (v := .int (s 58 0)) ja_Sections_has_22 rfl (by decide) ⟨rfl, by decide⟩ rfl ?_
                      refine q_ic_ge (pc' := 28) ja_Sections_has_25 rfl ?_ ?_
                      · intro h111
                        refine q_iconst (pc' := 33) ja_Sections_has_32 rfl 0 (by decide) ?_
                        refine q_iret ja_Sections_has_33 rfl (by decide) ?_
                        show q_W _ _ _ _ 44 [some (.ref 0), some (.int a1), some (.int a2), some (.int a3)] [.int 0] s
                        refine q_if_ne (pc' := 47) ja_C_tell_44 rfl (fun h => absurd ((by decide : (0 : Int32) = 0)) h) (fun _ => ?_)
                        refine q_bipush (pc' := 49) ja_C_tell_47 rfl (-2) (by decide) ?_
                        exact q_iret ja_C_tell_49 rfl rfl (k91 h2 h4 h50 h92 h94 h96 h97 h107 h108 h110 h111)
                      · intro h112
                        refine q_iconst (pc' := 29) ja_Sections_has_28 rfl 1 (by decide) ?_
                        refine q_goto ja_Sections_has_29 ?_
                        refine q_iret ja_Sections_has_33 rfl (by decide) ?_
                        show q_W _ _ _ _ 44 [some (.ref 0), some (.int a1), some (.int a2), some (.int a3)] [.int 1] s
                        refine q_if_ne (pc' := 47) ja_C_tell_44 rfl (fun _ => ?_) (fun h => absurd h ((by decide : ¬ (1 : Int32) = 0)))
                        refine q_aload_n (pc' := 51) ja_C_tell_50 rfl rfl ?_
                        refine q_getf (pc' := 54) (v := .ref 65) ja_C_tell_51 rfl (by decide) ⟨rfl, by decide⟩ rfl ?_
                        refine q_getf (pc' := 57) (v := .ref 66) ja_C_tell_54 rfl (by decide) ⟨rfl, by decide⟩ rfl ?_
                        refine q_virt (pc' := 60) (c := 66) (as := []) (r := []) ja_C_tell_57 rfl rfl rfl (by decide) ⟨rfl, by decide⟩ ?_
                        refine q_in (M := jm_Motions_isFull) rfl (Nat.le_of_ble_eq_true rfl) (ls := [some (.ref 66)]) rfl ?_
                        refine q_aload_n (pc' := 1) ja_Motions_isFull_0 rfl rfl ?_
                        refine q_getf (pc' := 4) (v := .int (s 66 0)) ja_Motions_isFull_1 rfl (by decide) ⟨rfl, by decide⟩ rfl ?_
                        refine q_aload_n (pc' := 5) ja_Motions_isFull_4 rfl rfl ?_
                        refine q_getf (pc' := 8) (v := .int (s 66 1)) ja_Motions_isFull_5 rfl (by decide) ⟨rfl, by decide⟩ rfl ?_
                        refine q_ic_lt (pc' := 11) ja_Motions_isFull_8 rfl ?_ ?_
                        · intro h113
                          refine q_iconst (pc' := 16) ja_Motions_isFull_15 rfl 0 (by decide) ?_
                          refine q_iret ja_Motions_isFull_16 rfl (by decide) ?_
                          show q_W _ _ _ _ 60 [some (.ref 0), some (.int a1), some (.int a2), some (.int a3)] [.int 0] s
                          refine q_if_eq (pc' := 63) ja_C_tell_60 rfl (fun _ => ?_) (fun h => absurd ((by decide : (0 : Int32) = 0)) h)
                          refine q_aload_n (pc' := 67) ja_C_tell_66 rfl rfl ?_
                          refine q_getf (pc' := 70) (v := .ref 65) ja_C_tell_67 rfl (by decide) ⟨rfl, by decide⟩ rfl ?_
                          refine q_getf (pc' := 73) (v := .ref 66) ja_C_tell_70 rfl (by decide) ⟨rfl, by decide⟩ rfl ?_
                          refine q_iload_n (pc' := 74) ja_C_tell_73 rfl rfl ?_
                          refine q_iconst (pc' := 75) ja_C_tell_74 rfl (-1) (by decide) ?_
                          refine q_iload_n (pc' := 76) ja_C_tell_75 rfl rfl ?_
                          refine q_iload_n (pc' := 77) ja_C_tell_76 rfl rfl ?_
                          refine q_stat (pc' := 80) (as := [.int a1]) (r := [.int a2, .int (-1), .int a1, .ref 66]) ja_C_tell_77 rfl (by decide) rfl rfl ?_
                          refine q_in (M := jm_C_takesWord) rfl (Nat.le_of_ble_eq_true rfl) (ls := [some (.int a1)]) rfl ?_
                          refine q_iload_n (pc' := 1) ja_C_takesWord_0 rfl rfl ?_
                          refine q_iconst (pc' := 2) ja_C_takesWord_1 rfl 2 (by decide) ?_
                          refine q_ic_eq (pc' := 5) ja_C_takesWord_2 rfl (fun h => absurd h (h50)) (fun _ => ?_)
                          refine q_iload_n (pc' := 6) ja_C_takesWord_5 rfl rfl ?_
                          refine q_iconst (pc' := 7) ja_C_takesWord_6 rfl 3 (by decide) ?_
                          refine q_ic_ne (pc' := 10) ja_C_takesWord_7 rfl (fun h => absurd (h92) h) (fun _ => ?_)
                          refine q_iconst (pc' := 11) ja_C_takesWord_10 rfl 1 (by decide) ?_
                          refine q_goto ja_C_takesWord_11 ?_
                          refine q_iret ja_C_takesWord_15 rfl (by decide) ?_
                          show q_W _ _ _ _ 80 [some (.ref 0), some (.int a1), some (.int a2), some (.int a3)] [.int 1, .int a2, .int (-1), .int a1, .ref 66] s
                          refine q_if_eq (pc' := 83) ja_C_tell_80 rfl (fun h => absurd h ((by decide : ¬ (1 : Int32) = 0))) (fun _ => ?_)
                          refine q_iload_n (pc' := 84) ja_C_tell_83 rfl rfl ?_
                          refine q_goto ja_C_tell_84 ?_
                          refine q_virt (pc' := 91) (c := 66) (as := [.int a1, .int (-1), .int a2, .int a3]) (r := []) ja_C_tell_88 rfl rfl rfl (by decide) ⟨rfl, by decide⟩ ?_
                          refine q_in (M := jm_Motions_push) rfl (Nat.le_of_ble_eq_true rfl) (ls := [some (.ref 66), some (.int a1), some (.int (-1)), some (.int a2), some (.int a3)]) rfl ?_
                          refine q_aload_n (pc' := 1) ja_Motions_push_0 rfl rfl ?_
                          refine q_getf (pc' := 4) (v := .int (s 66 0)) ja_Motions_push_1 rfl (by decide) ⟨rfl, by decide⟩ rfl ?_
                          refine q_if_lt (pc' := 7) ja_Motions_push_4 rfl ?_ ?_
                          · intro h114
                            refine q_vret ja_Motions_push_14 rfl ?_
                            show q_W _ _ _ _ 91 [some (.ref 0), some (.int a1), some (.int a2), some (.int a3)] [] s
                            refine q_aload_n (pc' := 92) ja_C_tell_91 rfl rfl ?_
                            refine q_getf (pc' := 95) (v := .ref 65) ja_C_tell_92 rfl (by decide) ⟨rfl, by decide⟩ rfl ?_
                            refine q_getf (pc' := 98) (v := .ref 66) ja_C_tell_95 rfl (by decide) ⟨rfl, by decide⟩ rfl ?_
                            refine q_getf (pc' := 101) (v := .int (s 66 0)) ja_C_tell_98 rfl (by decide) ⟨rfl, by decide⟩ rfl ?_
                            exact q_iret ja_C_tell_101 rfl rfl (k92 h2 h4 h50 h92 h94 h96 h97 h107 h108 h110 h112 h113 h114)
                          · intro h115
                            refine q_aload_n (pc' := 8) ja_Motions_push_7 rfl rfl ?_
                            refine q_virt (pc' := 11) (c := 66) (as := []) (r := []) ja_Motions_push_8 rfl rfl rfl (by decide) ⟨rfl, by decide⟩ ?_
                            refine q_in (M := jm_Motions_isFull) rfl (Nat.le_of_ble_eq_true rfl) (ls := [some (.ref 66)]) rfl ?_
                            refine q_aload_n (pc' := 1) ja_Motions_isFull_0 rfl rfl ?_
                            refine q_getf (pc' := 4) (v := .int (s 66 0)) ja_Motions_isFull_1 rfl (by decide) ⟨rfl, by decide⟩ rfl ?_
                            refine q_aload_n (pc' := 5) ja_Motions_isFull_4 rfl rfl ?_
                            refine q_getf (pc' := 8) (v := .int (s 66 1)) ja_Motions_isFull_5 rfl (by decide) ⟨rfl, by decide⟩ rfl ?_
                            refine q_ic_lt (pc' := 11) ja_Motions_isFull_8 rfl (fun _ => ?_) (fun h => absurd (h113) h)
                            refine q_iconst (pc' := 16) ja_Motions_isFull_15 rfl 0 (by decide) ?_
                            refine q_iret ja_Motions_isFull_16 rfl (by decide) ?_
                            show q_W _ _ _ _ 11 [some (.ref 66), some (.int a1), some (.int (-1)), some (.int a2), some (.int a3)] [.int 0] s
                            refine q_if_eq (pc' := 14) ja_Motions_push_11 rfl (fun _ => ?_) (fun h => absurd ((by decide : (0 : Int32) = 0)) h)
                            refine q_aload_n (pc' := 16) ja_Motions_push_15 rfl rfl ?_
                            refine q_getf (pc' := 19) (v := .ref 67) ja_Motions_push_16 rfl (by decide) ⟨rfl, by decide⟩ rfl ?_
                            refine q_aload_n (pc' := 20) ja_Motions_push_19 rfl rfl ?_
                            refine q_getf (pc' := 23) (v := .int (s 66 0)) ja_Motions_push_20 rfl (by decide) ⟨rfl, by decide⟩ rfl ?_
                            refine q_iload_n (pc' := 24) ja_Motions_push_23 rfl rfl ?_
                            refine q_iast (pc' := 25) ja_Motions_push_24 rfl (by decide) (l := 5) rfl (k93 h2 h4 h50 h92 h94 h96 h97 h107 h108 h110 h112 h113 h115) ?_
                            intro s46 e46
                            refine q_aload_n (pc' := 26) ja_Motions_push_25 rfl rfl ?_
                            refine q_getf (pc' := 29) (v := .ref 68) ja_Motions_push_26 rfl (by decide) ⟨rfl, by decide⟩ rfl ?_
                            refine q_aload_n (pc' := 30) ja_Motions_push_29 rfl rfl ?_
                            refine q_getf (pc' := 33) (v := .int (s46 66 0)) ja_Motions_push_30 rfl (by decide) ⟨rfl, by decide⟩ rfl ?_
                            refine q_iload_n (pc' := 34) ja_Motions_push_33 rfl rfl ?_
                            refine q_iast (pc' := 35) ja_Motions_push_34 rfl (by decide) (l := 5) rfl (k94 h2 h4 h50 h92 h94 h96 h97 h107 h108 h110 h112 h113 h115 s46 e46) ?_
                            intro s47 e47
                            refine q_aload_n (pc' := 36) ja_Motions_push_35 rfl rfl ?_
                            refine q_getf (pc' := 39) (v := .ref 69) ja_Motions_push_36 rfl (by decide) ⟨rfl, by decide⟩ rfl ?_
                            refine q_aload_n (pc' := 40) ja_Motions_push_39 rfl rfl ?_
                            refine q_getf (pc' := 43) (v := .int (s47 66 0)) ja_Motions_push_40 rfl (by decide) ⟨rfl, by decide⟩ rfl ?_
                            refine q_iload_n (pc' := 44) ja_Motions_push_43 rfl rfl ?_
                            refine q_iast (pc' := 45) ja_Motions_push_44 rfl (by decide) (l := 5) rfl (k95 h2 h4 h50 h92 h94 h96 h97 h107 h108 h110 h112 h113 h115 s46 e46 s47 e47) ?_
                            intro s48 e48
                            refine q_aload_n (pc' := 46) ja_Motions_push_45 rfl rfl ?_
                            refine q_getf (pc' := 49) (v := .ref 70) ja_Motions_push_46 rfl (by decide) ⟨rfl, by decide⟩ rfl ?_
                            refine q_aload_n (pc' := 50) ja_Motions_push_49 rfl rfl ?_
                            refine q_getf (pc' := 53) (v := .int (s48 66 0)) ja_Motions_push_50 rfl (by decide) ⟨rfl, by decide⟩ rfl ?_
                            refine q_iload (pc' := 55) ja_Motions_push_53 rfl rfl ?_
                            refine q_iast (pc' := 56) ja_Motions_push_55 rfl (by decide) (l := 5) rfl (k96 h2 h4 h50 h92 h94 h96 h97 h107 h108 h110 h112 h113 h115 s46 e46 s47 e47 s48 e48) ?_
                            intro s49 e49
                            refine q_aload_n (pc' := 57) ja_Motions_push_56 rfl rfl ?_
                            refine q_dup (pc' := 58) ja_Motions_push_57 rfl rfl ?_
                            refine q_getf (pc' := 61) (v := .int (s49 66 0)) ja_Motions_push_58 rfl (by decide) ⟨rfl, by decide⟩ rfl ?_
                            refine q_iconst (pc' := 62) ja_Motions_push_61 rfl 1 (by decide) ?_
                            refine q_iadd (pc' := 63) ja_Motions_push_62 rfl ?_
                            refine q_putf (pc' := 66) ja_Motions_push_63 rfl (by decide) rfl rfl rfl ?_
                            intro s50 e50
                            refine q_vret ja_Motions_push_66 rfl ?_
                            show q_W _ _ _ _ 91 [some (.ref 0), some (.int a1), some (.int a2), some (.int a3)] [] s50
                            refine q_aload_n (pc' := 92) ja_C_tell_91 rfl rfl ?_
                            refine q_getf (pc' := 95) (v := .ref 65) ja_C_tell_92 rfl (by decide) ⟨rfl, by decide⟩ rfl ?_
                            refine q_getf (pc' := 98) (v := .ref 66) ja_C_tell_95 rfl (by decide) ⟨rfl, by decide⟩ rfl ?_
                            refine q_getf (pc' := 101) (v := .int (s50 66 0)) ja_C_tell_98 rfl (by decide) ⟨rfl, by decide⟩ rfl ?_
                            exact q_iret ja_C_tell_101 rfl rfl (k97 h2 h4 h50 h92 h94 h96 h97 h107 h108 h110 h112 h113 h115 s46 e46 s47 e47 s48 e48 s49 e49 s50 e50)
                        · intro h116
                          refine q_iconst (pc' := 12) ja_Motions_isFull_11 rfl 1 (by decide) ?_
                          refine q_goto ja_Motions_isFull_12 ?_
                          refine q_iret ja_Motions_isFull_16 rfl (by decide) ?_
                          show q_W _ _ _ _ 60 [some (.ref 0), some (.int a1), some (.int a2), some (.int a3)] [.int 1] s
                          refine q_if_eq (pc' := 63) ja_C_tell_60 rfl (fun h => absurd h ((by decide : ¬ (1 : Int32) = 0))) (fun _ => ?_)
                          refine q_bipush (pc' := 65) ja_C_tell_63 rfl (-4) (by decide) ?_
                          exact q_iret ja_C_tell_65 rfl rfl (k98 h2 h4 h50 h92 h94 h96 h97 h107 h108 h110 h112 h116)
                  · intro h117
                    refine q_iload_n (pc' := 13) ja_C_isBill_12 rfl rfl ?_
                    refine q_aload_n (pc' := 14) ja_C_isBill_13 rfl rfl ?_
                    refine q_getf (pc' := 17) (v := .ref 32) ja_C_isBill_14 rfl (by decide) ⟨rfl, by decide⟩ rfl ?_
                    refine q_alen (pc' := 18) ja_C_isBill_17 rfl (by decide) (kd := 17) (l := 8) rfl (by decide) (v := 8) (by decide) ?_
                    refine q_ic_ge (pc' := 21) ja_C_isBill_18 rfl ?_ ?_
                    · intro h118
                      refine q_iconst (pc' := 26) ja_C_isBill_25 rfl 0 (by decide) ?_
                      refine q_iret ja_C_isBill_26 rfl (by decide) ?_
                      show q_W _ _ _ _ 8 [some (.ref 0)] [.int 0] s
                      refine q_if_eq (pc' := 11) ja_C_floor_8 rfl (fun _ => ?_) (fun h => absurd ((by decide : (0 : Int32) = 0)) h)
                      refine q_aload_n (pc' := 27) ja_C_floor_26 rfl rfl ?_
                      refine q_getf (pc' := 30) (v := .ref 58) ja_C_floor_27 rfl (by decide) ⟨rfl, by decide⟩ rfl ?_
                      refine q_aret ja_C_floor_30 rfl ?_
                      show q_W _ _ _ _ 39 [some (.ref 0), some (.int a1), some (.int a2), some (.int a3)] [.ref 58] s
                      refine q_iload_n (pc' := 40) ja_C_tell_39 rfl rfl ?_
                      refine q_iload_n (pc' := 41) ja_C_tell_40 rfl rfl ?_
                      refine q_virt (pc' := 44) (c := 58) (as := [.int a1, .int a2]) (r := []) ja_C_tell_41 rfl rfl rfl (by decide) ⟨rfl, by decide⟩ ?_
                      refine q_in (M := jm_Sections_has) rfl (Nat.le_of_ble_eq_true rfl) (ls := [some (.ref 58), some (.int a1), some (.int a2)]) rfl ?_
                      refine q_iload_n (pc' := 1) ja_Sections_has_0 rfl rfl ?_
                      refine q_if_lt (pc' := 4) ja_Sections_has_1 rfl ?_ ?_
                      · intro h119
                        refine q_iconst (pc' := 33) ja_Sections_has_32 rfl 0 (by decide) ?_
                        refine q_iret ja_Sections_has_33 rfl (by decide) ?_
                        show q_W _ _ _ _ 44 [some (.ref 0), some (.int a1), some (.int a2), some (.int a3)] [.int 0] s
                        refine q_if_ne (pc' := 47) ja_C_tell_44 rfl (fun h => absurd ((by decide : (0 : Int32) = 0)) h) (fun _ => ?_)
                        refine q_bipush (pc' := 49) ja_C_tell_47 rfl (-2) (by decide) ?_
                        exact q_iret ja_C_tell_49 rfl rfl (k99 h2 h4 h50 h92 h94 h96 h97 h107 h117 h118 h119)
                      · intro h120
                        refine q_iload_n (pc' := 5) ja_Sections_has_4 rfl rfl ?_
                        refine q_iconst (pc' := 6) ja_Sections_has_5 rfl 2 (by decide) ?_
                        refine q_ic_ne (pc' := 9) ja_Sections_has_6 rfl (fun _ => ?_) (fun h => absurd h (h50))
                        refine q_iload_n (pc' := 21) ja_Sections_has_20 rfl rfl ?_
                        refine q_aload_n (pc' := 22) ja_Sections_has_21 rfl rfl ?_
                        refine q_getf (pc' := 25) (v := .int (s 58 0)) ja_Sections_has_22 rfl (by decide) ⟨rfl, by decide⟩ rfl ?_
                        refine q_ic_ge (pc' := 28) ja_Sections_has_25 rfl ?_ ?_
                        · intro h121
                          refine q_iconst (pc' := 33) ja_Sections_has_32 rfl 0 (by decide) ?_
                          refine q_iret ja_Sections_has_33 rfl (by decide) ?_
                          show q_W _ _ _ _ 44 [some (.ref 0), some (.int a1), some (.int a2), some (.int a3)] [.int 0] s
                          refine q_if_ne (pc' := 47) ja_C_tell_44 rfl (fun h => absurd ((by decide : (0 : Int32) = 0)) h) (fun _ => ?_)
                          refine q_bipush (pc' := 49) ja_C_tell_47 rfl (-2) (by decide) ?_
                          exact q_iret ja_C_tell_49 rfl rfl (k100 h2 h4 h50 h92 h94 h96 h97 h107 h117 h118 h120 h121)
                        · intro h122
                          refine q_iconst (pc' := 29) ja_Sections_has_28 rfl 1 (by decide) ?_
                          refine q_goto ja_Sections_has_29 ?_
                          refine q_iret ja_Sections_has_33 rfl (by decide) ?_
                          show q_W _ _ _ _ 44 [some (.ref 0), some (.int a1), some (.int a2), some (.int a3)] [.int 1] s
                          refine q_if_ne (pc' := 47) ja_C_tell_44 rfl (fun _ => ?_) (fun h => absurd h ((by decide : ¬ (1 : Int32) = 0)))
                          refine q_aload_n (pc' := 51) ja_C_tell_50 rfl rfl ?_
                          refine q_getf (pc' := 54) (v := .ref 65) ja_C_tell_51 rfl (by decide) ⟨rfl, by decide⟩ rfl ?_
                          refine q_getf (pc' := 57) (v := .ref 66) ja_C_tell_54 rfl (by decide) ⟨rfl, by decide⟩ rfl ?_
                          refine q_virt (pc' := 60) (c := 66) (as := []) (r := []) ja_C_tell_57 rfl rfl rfl (by decide) ⟨rfl, by decide⟩ ?_
                          refine q_in (M := jm_Motions_isFull) rfl (Nat.le_of_ble_eq_true rfl) (ls := [some (.ref 66)]) rfl ?_
                          refine q_aload_n (pc' := 1) ja_Motions_isFull_0 rfl rfl ?_
                          refine q_getf (pc' := 4) (v := .int (s 66 0)) ja_Motions_isFull_1 rfl (by decide) ⟨rfl, by decide⟩ rfl ?_
                          refine q_aload_n (pc' := 5) ja_Motions_isFull_4 rfl rfl ?_
                          refine q_getf (pc' := 8) (v := .int (s 66 1)) ja_Motions_isFull_5 rfl (by decide) ⟨rfl, by decide⟩ rfl ?_
                          refine q_ic_lt (pc' := 11) ja_Motions_isFull_8 rfl ?_ ?_
                          · intro h123
                            refine q_iconst (pc' := 16) ja_Motions_isFull_15 rfl 0 (by decide) ?_
                            refine q_iret ja_Motions_isFull_16 rfl (by decide) ?_
                            show q_W _ _ _ _ 60 [some (.ref 0), some (.int a1), some (.int a2), some (.int a3)] [.int 0] s
                            refine q_if_eq (pc' := 63) ja_C_tell_60 rfl (fun _ => ?_) (fun h => absurd ((by decide : (0 : Int32) = 0)) h)
                            refine q_aload_n (pc' := 67) ja_C_tell_66 rfl rfl ?_
                            refine q_getf (pc' := 70) (v := .ref 65) ja_C_tell_67 rfl (by decide) ⟨rfl, by decide⟩ rfl ?_
                            refine q_getf (pc' := 73) (v := .ref 66) ja_C_tell_70 rfl (by decide) ⟨rfl, by decide⟩ rfl ?_
                            refine q_iload_n (pc' := 74) ja_C_tell_73 rfl rfl ?_
                            refine q_iconst (pc' := 75) ja_C_tell_74 rfl (-1) (by decide) ?_
                            refine q_iload_n (pc' := 76) ja_C_tell_75 rfl rfl ?_
                            refine q_iload_n (pc' := 77) ja_C_tell_76 rfl rfl ?_
                            refine q_stat (pc' := 80) (as := [.int a1]) (r := [.int a2, .int (-1), .int a1, .ref 66]) ja_C_tell_77 rfl (by decide) rfl rfl ?_
                            refine q_in (M := jm_C_takesWord) rfl (Nat.le_of_ble_eq_true rfl) (ls := [some (.int a1)]) rfl ?_
                            refine q_iload_n (pc' := 1) ja_C_takesWord_0 rfl rfl ?_
                            refine q_iconst (pc' := 2) ja_C_takesWord_1 rfl 2 (by decide) ?_
                            refine q_ic_eq (pc' := 5) ja_C_takesWord_2 rfl (fun h => absurd h (h50)) (fun _ => ?_)
                            refine q_iload_n (pc' := 6) ja_C_takesWord_5 rfl rfl ?_
                            refine q_iconst (pc' := 7) ja_C_takesWord_6 rfl 3 (by decide) ?_
                            refine q_ic_ne (pc' := 10) ja_C_takesWord_7 rfl (fun h => absurd (h92) h) (fun _ => ?_)
                            refine q_iconst (pc' := 11) ja_C_takesWord_10 rfl 1 (by decide) ?_
                            refine q_goto ja_C_takesWord_11 ?_
                            refine q_iret ja_C_takesWord_15 rfl (by decide) ?_
                            show q_W _ _ _ _ 80 [some (.ref 0), some (.int a1), some (.int a2), some (.int a3)] [.int 1, .int a2, .int (-1), .int a1, .ref 66] s
                            refine q_if_eq (pc' := 83) ja_C_tell_80 rfl (fun h => absurd h ((by decide : ¬ (1 : Int32) = 0))) (fun _ => ?_)
                            refine q_iload_n (pc' := 84) ja_C_tell_83 rfl rfl ?_
                            refine q_goto ja_C_tell_84 ?_
                            refine q_virt (pc' := 91) (c := 66) (as := [.int a1, .int (-1), .int a2, .int a3]) (r := []) ja_C_tell_88 rfl rfl rfl (by decide) ⟨rfl, by decide⟩ ?_
                            refine q_in (M := jm_Motions_push) rfl (Nat.le_of_ble_eq_true rfl) (ls := [some (.ref 66), some (.int a1), some (.int (-1)), some (.int a2), some (.int a3)]) rfl ?_
                            refine q_aload_n (pc' := 1) ja_Motions_push_0 rfl rfl ?_
                            refine q_getf (pc' := 4) (v := .int (s 66 0)) ja_Motions_push_1 rfl (by decide) ⟨rfl, by decide⟩ rfl ?_
                            refine q_if_lt (pc' := 7) ja_Motions_push_4 rfl ?_ ?_
                            · intro h124
                              refine q_vret ja_Motions_push_14 rfl ?_
                              show q_W _ _ _ _ 91 [some (.ref 0), some (.int a1), some (.int a2), some (.int a3)] [] s
                              refine q_aload_n (pc' := 92) ja_C_tell_91 rfl rfl ?_
                              refine q_getf (pc' := 95) (v := .ref 65) ja_C_tell_92 rfl (by decide) ⟨rfl, by decide⟩ rfl ?_
                              refine q_getf (pc' := 98) (v := .ref 66) ja_C_tell_95 rfl (by decide) ⟨rfl, by decide⟩ rfl ?_
                              refine q_getf (pc' := 101) (v := .int (s 66 0)) ja_C_tell_98 rfl (by decide) ⟨rfl, by decide⟩ rfl ?_
                              exact q_iret ja_C_tell_101 rfl rfl (k101 h2 h4 h50 h92 h94 h96 h97 h107 h117 h118 h120 h122 h123 h124)
                            · intro h125
                              refine q_aload_n (pc' := 8) ja_Motions_push_7 rfl rfl ?_
                              refine q_virt (pc' := 11) (c := 66) (as := []) (r := []) ja_Motions_push_8 rfl rfl rfl (by decide) ⟨rfl, by decide⟩ ?_
                              refine q_in (M := jm_Motions_isFull) rfl (Nat.le_of_ble_eq_true rfl) (ls := [some (.ref 66)]) rfl ?_
                              refine q_aload_n (pc' := 1) ja_Motions_isFull_0 rfl rfl ?_
                              refine q_getf (pc' := 4) (v := .int (s 66 0)) ja_Motions_isFull_1 rfl (by decide) ⟨rfl, by decide⟩ rfl ?_
                              refine q_aload_n (pc' := 5) ja_Motions_isFull_4 rfl rfl ?_
                              refine q_getf (pc' := 8) (v := .int (s 66 1)) ja_Motions_isFull_5 rfl (by decide) ⟨rfl, by decide⟩ rfl ?_
                              refine q_ic_lt (pc' := 11) ja_Motions_isFull_8 rfl (fun _ => ?_) (fun h => absurd (h123) h)
                              refine q_iconst (pc' := 16) ja_Motions_isFull_15 rfl 0 (by decide) ?_
                              refine q_iret ja_Motions_isFull_16 rfl (by decide) ?_
                              show q_W _ _ _ _ 11 [some (.ref 66), some (.int a1), some (.int (-1)), some (.int a2), some (.int a3)] [.int 0] s
                              refine q_if_eq (pc' := 14) ja_Motions_push_11 rfl (fun _ => ?_) (fun h => absurd ((by decide : (0 : Int32) = 0)) h)
                              refine q_aload_n (pc' := 16) ja_Motions_push_15 rfl rfl ?_
                              refine q_getf (pc' := 19) (v := .ref 67) ja_Motions_push_16 rfl (by decide) ⟨rfl, by decide⟩ rfl ?_
                              refine q_aload_n (pc' := 20) ja_Motions_push_19 rfl rfl ?_
                              refine q_getf (pc' := 23) (v := .int (s 66 0)) ja_Motions_push_20 rfl (by decide) ⟨rfl, by decide⟩ rfl ?_
                              refine q_iload_n (pc' := 24) ja_Motions_push_23 rfl rfl ?_
                              refine q_iast (pc' := 25) ja_Motions_push_24 rfl (by decide) (l := 5) rfl (k102 h2 h4 h50 h92 h94 h96 h97 h107 h117 h118 h120 h122 h123 h125) ?_
                              intro s51 e51
                              refine q_aload_n (pc' := 26) ja_Motions_push_25 rfl rfl ?_
                              refine q_getf (pc' := 29) (v := .ref 68) ja_Motions_push_26 rfl (by decide) ⟨rfl, by decide⟩ rfl ?_
                              refine q_aload_n (pc' := 30) ja_Motions_push_29 rfl rfl ?_
                              refine q_getf (pc' := 33) (v := .int (s51 66 0)) ja_Motions_push_30 rfl (by decide) ⟨rfl, by decide⟩ rfl ?_
                              refine q_iload_n (pc' := 34) ja_Motions_push_33 rfl rfl ?_
                              refine q_iast (pc' := 35) ja_Motions_push_34 rfl (by decide) (l := 5) rfl (k103 h2 h4 h50 h92 h94 h96 h97 h107 h117 h118 h120 h122 h123 h125 s51 e51) ?_
                              intro s52 e52
                              refine q_aload_n (pc' := 36) ja_Motions_push_35 rfl rfl ?_
                              refine q_getf (pc' := 39) (v := .ref 69) ja_Motions_push_36 rfl (by decide) ⟨rfl, by decide⟩ rfl ?_
                              refine q_aload_n (pc' := 40) ja_Motions_push_39 rfl rfl ?_
                              refine q_getf (pc' := 43) (v := .int (s52 66 0)) ja_Motions_push_40 rfl (by decide) ⟨rfl, by decide⟩ rfl ?_
                              refine q_iload_n (pc' := 44) ja_Motions_push_43 rfl rfl ?_
                              refine q_iast (pc' := 45) ja_Motions_push_44 rfl (by decide) (l := 5) rfl (k104 h2 h4 h50 h92 h94 h96 h97 h107 h117 h118 h120 h122 h123 h125 s51 e51 s52 e52) ?_
                              intro s53 e53
                              refine q_aload_n (pc' := 46) ja_Motions_push_45 rfl rfl ?_
                              refine q_getf (pc' := 49) (v := .ref 70) ja_Motions_push_46 rfl (by decide) ⟨rfl, by decide⟩ rfl ?_
                              refine q_aload_n (pc' := 50) ja_Motions_push_49 rfl rfl ?_
                              refine q_getf (pc' := 53) (v := .int (s53 66 0)) ja_Motions_push_50 rfl (by decide) ⟨rfl, by decide⟩ rfl ?_
                              refine q_iload (pc' := 55) ja_Motions_push_53 rfl rfl ?_
                              refine q_iast (pc' := 56) ja_Motions_push_55 rfl (by decide) (l := 5) rfl (k105 h2 h4 h50 h92 h94 h96 h97 h107 h117 h118 h120 h122 h123 h125 s51 e51 s52 e52 s53 e53) ?_
                              intro s54 e54
                              refine q_aload_n (pc' := 57) ja_Motions_push_56 rfl rfl ?_
                              refine q_dup (pc' := 58) ja_Motions_push_57 rfl rfl ?_
                              refine q_getf (pc' := 61) (v := .int (s54 66 0)) ja_Motions_push_58 rfl (by decide) ⟨rfl, by decide⟩ rfl ?_
                              refine q_iconst (pc' := 62) ja_Motions_push_61 rfl 1 (by decide) ?_
                              refine q_iadd (pc' := 63) ja_Motions_push_62 rfl ?_
                              refine q_putf (pc' := 66) ja_Motions_push_63 rfl (by decide) rfl rfl rfl ?_
                              intro s55 e55
                              refine q_vret ja_Motions_push_66 rfl ?_
                              show q_W _ _ _ _ 91 [some (.ref 0), some (.int a1), some (.int a2), some (.int a3)] [] s55
                              refine q_aload_n (pc' := 92) ja_C_tell_91 rfl rfl ?_
                              refine q_getf (pc' := 95) (v := .ref 65) ja_C_tell_92 rfl (by decide) ⟨rfl, by decide⟩ rfl ?_
                              refine q_getf (pc' := 98) (v := .ref 66) ja_C_tell_95 rfl (by decide) ⟨rfl, by decide⟩ rfl ?_
                              refine q_getf (pc' := 101) (v := .int (s55 66 0)) ja_C_tell_98 rfl (by decide) ⟨rfl, by decide⟩ rfl ?_
                              exact q_iret ja_C_tell_101 rfl rfl (k106 h2 h4 h50 h92 h94 h96 h97 h107 h117 h118 h120 h122 h123 h125 s51 e51 s52 e52 s53 e53 s54 e54 s55 e55)
                          · intro h126
                            refine q_iconst (pc' := 12) ja_Motions_isFull_11 rfl 1 (by decide) ?_
                            refine q_goto ja_Motions_isFull_12 ?_
                            refine q_iret ja_Motions_isFull_16 rfl (by decide) ?_
                            show q_W _ _ _ _ 60 [some (.ref 0), some (.int a1), some (.int a2), some (.int a3)] [.int 1] s
                            refine q_if_eq (pc' := 63) ja_C_tell_60 rfl (fun h => absurd h ((by decide : ¬ (1 : Int32) = 0))) (fun _ => ?_)
                            refine q_bipush (pc' := 65) ja_C_tell_63 rfl (-4) (by decide) ?_
                            exact q_iret ja_C_tell_65 rfl rfl (k107 h2 h4 h50 h92 h94 h96 h97 h107 h117 h118 h120 h122 h126)
                    · intro h127
                      refine q_iconst (pc' := 22) ja_C_isBill_21 rfl 1 (by decide) ?_
                      refine q_goto ja_C_isBill_22 ?_
                      refine q_iret ja_C_isBill_26 rfl (by decide) ?_
                      show q_W _ _ _ _ 8 [some (.ref 0)] [.int 1] s
                      refine q_if_eq (pc' := 11) ja_C_floor_8 rfl (fun h => absurd h ((by decide : ¬ (1 : Int32) = 0))) (fun _ => ?_)
                      refine q_aload_n (pc' := 12) ja_C_floor_11 rfl rfl ?_
                      refine q_getf (pc' := 15) (v := .ref 32) ja_C_floor_12 rfl (by decide) ⟨rfl, by decide⟩ rfl ?_
                      refine q_aload_n (pc' := 16) ja_C_floor_15 rfl rfl ?_
                      refine q_getf (pc' := 19) (v := .int (s 0 6)) ja_C_floor_16 rfl (by decide) ⟨rfl, by decide⟩ rfl ?_
                      refine q_aald (pc' := 20) (v := .ref (33 + 3 * (s 0 6).toNatClampNeg)) ja_C_floor_19 rfl (by decide) (kd := 17) (l := 8) rfl (by decide) (q_inr (l := 8) (by decide) h107 h127) (f_A32 (f_in (q_inr (l := 8) (by decide) h107 h127))) ?_
                      refine q_getf (pc' := 23) (v := .ref ((33 + 3 * (s 0 6).toNatClampNeg) + 1)) ja_C_floor_20 rfl (f_1_c (f_m32 (f_in (q_inr (l := 8) (by decide) h107 h127)))) ⟨by rw [f_1_k (f_m32 (f_in (q_inr (l := 8) (by decide) h107 h127)))], by decide⟩ (f_1_g2 (f_m32 (f_in (q_inr (l := 8) (by decide) h107 h127)))) ?_
                      refine q_goto ja_C_floor_23 ?_
                      refine q_aret ja_C_floor_30 rfl ?_
                      show q_W _ _ _ _ 39 [some (.ref 0), some (.int a1), some (.int a2), some (.int a3)] [.ref ((33 + 3 * (s 0 6).toNatClampNeg) + 1)] s
                      refine q_iload_n (pc' := 40) ja_C_tell_39 rfl rfl ?_
                      refine q_iload_n (pc' := 41) ja_C_tell_40 rfl rfl ?_
                      refine q_virt (pc' := 44) (c := ((33 + 3 * (s 0 6).toNatClampNeg) + 1)) (as := [.int a1, .int a2]) (r := []) ja_C_tell_41 rfl rfl rfl (f_8_c (f_1_s2 (f_m32 (f_in (q_inr (l := 8) (by decide) h107 h127))))) ⟨by rw [f_8_k (f_1_s2 (f_m32 (f_in (q_inr (l := 8) (by decide) h107 h127))))], by decide⟩ ?_
                      refine q_in (M := jm_Sections_has) rfl (Nat.le_of_ble_eq_true rfl) (ls := [some (.ref ((33 + 3 * (s 0 6).toNatClampNeg) + 1)), some (.int a1), some (.int a2)]) rfl ?_
                      refine q_iload_n (pc' := 1) ja_Sections_has_0 rfl rfl ?_
                      refine q_if_lt (pc' := 4) ja_Sections_has_1 rfl ?_ ?_
                      · intro h128
                        refine q_iconst (pc' := 33) ja_Sections_has_32 rfl 0 (by decide) ?_
                        refine q_iret ja_Sections_has_33 rfl (by decide) ?_
                        show q_W _ _ _ _ 44 [some (.ref 0), some (.int a1), some (.int a2), some (.int a3)] [.int 0] s
                        refine q_if_ne (pc' := 47) ja_C_tell_44 rfl (fun h => absurd ((by decide : (0 : Int32) = 0)) h) (fun _ => ?_)
                        refine q_bipush (pc' := 49) ja_C_tell_47 rfl (-2) (by decide) ?_
                        exact q_iret ja_C_tell_49 rfl rfl (k108 h2 h4 h50 h92 h94 h96 h97 h107 h117 h127 h128)
                      · intro h129
                        refine q_iload_n (pc' := 5) ja_Sections_has_4 rfl rfl ?_
                        refine q_iconst (pc' := 6) ja_Sections_has_5 rfl 2 (by decide) ?_
                        refine q_ic_ne (pc' := 9) ja_Sections_has_6 rfl (fun _ => ?_) (fun h => absurd h (h50))
                        refine q_iload_n (pc' := 21) ja_Sections_has_20 rfl rfl ?_
                        refine q_aload_n (pc' := 22) ja_Sections_has_21 rfl rfl ?_
                        refine q_getf (pc' := 25) (v := .int (s ((33 + 3 * (s 0 6).toNatClampNeg) + 1) 0)) ja_Sections_has_22 rfl (f_8_c (f_1_s2 (f_m32 (f_in (q_inr (l := 8) (by decide) h107 h127))))) ⟨by rw [f_8_k (f_1_s2 (f_m32 (f_in (q_inr (l := 8) (by decide) h107 h127))))], by decide⟩ (f_i (f_8_k (f_1_s2 (f_m32 (f_in (q_inr (l := 8) (by decide) h107 h127))))) rfl) ?_
                        refine q_ic_ge (pc' := 28) ja_Sections_has_25 rfl ?_ ?_
                        · intro h130
                          refine q_iconst (pc' := 33) ja_Sections_has_32 rfl 0 (by decide) ?_
                          refine q_iret ja_Sections_has_33 rfl (by decide) ?_
                          show q_W _ _ _ _ 44 [some (.ref 0), some (.int a1), some (.int a2), some (.int a3)] [.int 0] s
                          refine q_if_ne (pc' := 47) ja_C_tell_44 rfl (fun h => absurd ((by decide : (0 : Int32) = 0)) h) (fun _ => ?_)
                          refine q_bipush (pc' := 49) ja_C_tell_47 rfl (-2) (by decide) ?_
                          exact q_iret ja_C_tell_49 rfl rfl (k109 h2 h4 h50 h92 h94 h96 h97 h107 h117 h127 h129 h130)
                        · intro h131
                          refine q_iconst (pc' := 29) ja_Sections_has_28 rfl 1 (by decide) ?_
                          refine q_goto ja_Sections_has_29 ?_
                          refine q_iret ja_Sections_has_33 rfl (by decide) ?_
                          show q_W _ _ _ _ 44 [some (.ref 0), some (.int a1), some (.int a2), some (.int a3)] [.int 1] s
                          refine q_if_ne (pc' := 47) ja_C_tell_44 rfl (fun _ => ?_) (fun h => absurd h ((by decide : ¬ (1 : Int32) = 0)))
                          refine q_aload_n (pc' := 51) ja_C_tell_50 rfl rfl ?_
                          refine q_getf (pc' := 54) (v := .ref 65) ja_C_tell_51 rfl (by decide) ⟨rfl, by decide⟩ rfl ?_
                          refine q_getf (pc' := 57) (v := .ref 66) ja_C_tell_54 rfl (by decide) ⟨rfl, by decide⟩ rfl ?_
                          refine q_virt (pc' := 60) (c := 66) (as := []) (r := []) ja_C_tell_57 rfl rfl rfl (by decide) ⟨rfl, by decide⟩ ?_
                          refine q_in (M := jm_Motions_isFull) rfl (Nat.le_of_ble_eq_true rfl) (ls := [some (.ref 66)]) rfl ?_
                          refine q_aload_n (pc' := 1) ja_Motions_isFull_0 rfl rfl ?_
                          refine q_getf (pc' := 4) (v := .int (s 66 0)) ja_Motions_isFull_1 rfl (by decide) ⟨rfl, by decide⟩ rfl ?_
                          refine q_aload_n (pc' := 5) ja_Motions_isFull_4 rfl rfl ?_
                          refine q_getf (pc' := 8) (v := .int (s 66 1)) ja_Motions_isFull_5 rfl (by decide) ⟨rfl, by decide⟩ rfl ?_
                          refine q_ic_lt (pc' := 11) ja_Motions_isFull_8 rfl ?_ ?_
                          · intro h132
                            refine q_iconst (pc' := 16) ja_Motions_isFull_15 rfl 0 (by decide) ?_
                            refine q_iret ja_Motions_isFull_16 rfl (by decide) ?_
                            show q_W _ _ _ _ 60 [some (.ref 0), some (.int a1), some (.int a2), some (.int a3)] [.int 0] s
                            refine q_if_eq (pc' := 63) ja_C_tell_60 rfl (fun _ => ?_) (fun h => absurd ((by decide : (0 : Int32) = 0)) h)
                            refine q_aload_n (pc' := 67) ja_C_tell_66 rfl rfl ?_
                            refine q_getf (pc' := 70) (v := .ref 65) ja_C_tell_67 rfl (by decide) ⟨rfl, by decide⟩ rfl ?_
                            refine q_getf (pc' := 73) (v := .ref 66) ja_C_tell_70 rfl (by decide) ⟨rfl, by decide⟩ rfl ?_
                            refine q_iload_n (pc' := 74) ja_C_tell_73 rfl rfl ?_
                            refine q_iconst (pc' := 75) ja_C_tell_74 rfl (-1) (by decide) ?_
                            refine q_iload_n (pc' := 76) ja_C_tell_75 rfl rfl ?_
                            refine q_iload_n (pc' := 77) ja_C_tell_76 rfl rfl ?_
                            refine q_stat (pc' := 80) (as := [.int a1]) (r := [.int a2, .int (-1), .int a1, .ref 66]) ja_C_tell_77 rfl (by decide) rfl rfl ?_
                            refine q_in (M := jm_C_takesWord) rfl (Nat.le_of_ble_eq_true rfl) (ls := [some (.int a1)]) rfl ?_
                            refine q_iload_n (pc' := 1) ja_C_takesWord_0 rfl rfl ?_
                            refine q_iconst (pc' := 2) ja_C_takesWord_1 rfl 2 (by decide) ?_
                            refine q_ic_eq (pc' := 5) ja_C_takesWord_2 rfl (fun h => absurd h (h50)) (fun _ => ?_)
                            refine q_iload_n (pc' := 6) ja_C_takesWord_5 rfl rfl ?_
                            refine q_iconst (pc' := 7) ja_C_takesWord_6 rfl 3 (by decide) ?_
                            refine q_ic_ne (pc' := 10) ja_C_takesWord_7 rfl (fun h => absurd (h92) h) (fun _ => ?_)
                            refine q_iconst (pc' := 11) ja_C_takesWord_10 rfl 1 (by decide) ?_
                            refine q_goto ja_C_takesWord_11 ?_
                            refine q_iret ja_C_takesWord_15 rfl (by decide) ?_
                            show q_W _ _ _ _ 80 [some (.ref 0), some (.int a1), some (.int a2), some (.int a3)] [.int 1, .int a2, .int (-1), .int a1, .ref 66] s
                            refine q_if_eq (pc' := 83) ja_C_tell_80 rfl (fun h => absurd h ((by decide : ¬ (1 : Int32) = 0))) (fun _ => ?_)
                            refine q_iload_n (pc' := 84) ja_C_tell_83 rfl rfl ?_
                            refine q_goto ja_C_tell_84 ?_
                            refine q_virt (pc' := 91) (c := 66) (as := [.int a1, .int (-1), .int a2, .int a3]) (r := []) ja_C_tell_88 rfl rfl rfl (by decide) ⟨rfl, by decide⟩ ?_
                            refine q_in (M := jm_Motions_push) rfl (Nat.le_of_ble_eq_true rfl) (ls := [some (.ref 66), some (.int a1), some (.int (-1)), some (.int a2), some (.int a3)]) rfl ?_
                            refine q_aload_n (pc' := 1) ja_Motions_push_0 rfl rfl ?_
                            refine q_getf (pc' := 4) (v := .int (s 66 0)) ja_Motions_push_1 rfl (by decide) ⟨rfl, by decide⟩ rfl ?_
                            refine q_if_lt (pc' := 7) ja_Motions_push_4 rfl ?_ ?_
                            · intro h133
                              refine q_vret ja_Motions_push_14 rfl ?_
                              show q_W _ _ _ _ 91 [some (.ref 0), some (.int a1), some (.int a2), some (.int a3)] [] s
                              refine q_aload_n (pc' := 92) ja_C_tell_91 rfl rfl ?_
                              refine q_getf (pc' := 95) (v := .ref 65) ja_C_tell_92 rfl (by decide) ⟨rfl, by decide⟩ rfl ?_
                              refine q_getf (pc' := 98) (v := .ref 66) ja_C_tell_95 rfl (by decide) ⟨rfl, by decide⟩ rfl ?_
                              refine q_getf (pc' := 101) (v := .int (s 66 0)) ja_C_tell_98 rfl (by decide) ⟨rfl, by decide⟩ rfl ?_
                              exact q_iret ja_C_tell_101 rfl rfl (k110 h2 h4 h50 h92 h94 h96 h97 h107 h117 h127 h129 h131 h132 h133)
                            · intro h134
                              refine q_aload_n (pc' := 8) ja_Motions_push_7 rfl rfl ?_
                              refine q_virt (pc' := 11) (c := 66) (as := []) (r := []) ja_Motions_push_8 rfl rfl rfl (by decide) ⟨rfl, by decide⟩ ?_
                              refine q_in (M := jm_Motions_isFull) rfl (Nat.le_of_ble_eq_true rfl) (ls := [some (.ref 66)]) rfl ?_
                              refine q_aload_n (pc' := 1) ja_Motions_isFull_0 rfl rfl ?_
                              refine q_getf (pc' := 4) (v := .int (s 66 0)) ja_Motions_isFull_1 rfl (by decide) ⟨rfl, by decide⟩ rfl ?_
                              refine q_aload_n (pc' := 5) ja_Motions_isFull_4 rfl rfl ?_
                              refine q_getf (pc' := 8) (v := .int (s 66 1)) ja_Motions_isFull_5 rfl (by decide) ⟨rfl, by decide⟩ rfl ?_
                              refine q_ic_lt (pc' := 11) ja_Motions_isFull_8 rfl (fun _ => ?_) (fun h => absurd (h132) h)
                              refine q_iconst (pc' := 16) ja_Motions_isFull_15 rfl 0 (by decide) ?_
                              refine q_iret ja_Motions_isFull_16 rfl (by decide) ?_
                              show q_W _ _ _ _ 11 [some (.ref 66), some (.int a1), some (.int (-1)), some (.int a2), some (.int a3)] [.int 0] s
                              refine q_if_eq (pc' := 14) ja_Motions_push_11 rfl (fun _ => ?_) (fun h => absurd ((by decide : (0 : Int32) = 0)) h)
                              refine q_aload_n (pc' := 16) ja_Motions_push_15 rfl rfl ?_
                              refine q_getf (pc' := 19) (v := .ref 67) ja_Motions_push_16 rfl (by decide) ⟨rfl, by decide⟩ rfl ?_
                              refine q_aload_n (pc' := 20) ja_Motions_push_19 rfl rfl ?_
                              refine q_getf (pc' := 23) (v := .int (s 66 0)) ja_Motions_push_20 rfl (by decide) ⟨rfl, by decide⟩ rfl ?_
                              refine q_iload_n (pc' := 24) ja_Motions_push_23 rfl rfl ?_
                              refine q_iast (pc' := 25) ja_Motions_push_24 rfl (by decide) (l := 5) rfl (k111 h2 h4 h50 h92 h94 h96 h97 h107 h117 h127 h129 h131 h132 h134) ?_
                              intro s56 e56
                              refine q_aload_n (pc' := 26) ja_Motions_push_25 rfl rfl ?_
                              refine q_getf (pc' := 29) (v := .ref 68) ja_Motions_push_26 rfl (by decide) ⟨rfl, by decide⟩ rfl ?_
                              refine q_aload_n (pc' := 30) ja_Motions_push_29 rfl rfl ?_
                              refine q_getf (pc' := 33) (v := .int (s56 66 0)) ja_Motions_push_30 rfl (by decide) ⟨rfl, by decide⟩ rfl ?_
                              refine q_iload_n (pc' := 34) ja_Motions_push_33 rfl rfl ?_
                              refine q_iast (pc' := 35) ja_Motions_push_34 rfl (by decide) (l := 5) rfl (k112 h2 h4 h50 h92 h94 h96 h97 h107 h117 h127 h129 h131 h132 h134 s56 e56) ?_
                              intro s57 e57
                              refine q_aload_n (pc' := 36) ja_Motions_push_35 rfl rfl ?_
                              refine q_getf (pc' := 39) (v := .ref 69) ja_Motions_push_36 rfl (by decide) ⟨rfl, by decide⟩ rfl ?_
                              refine q_aload_n (pc' := 40) ja_Motions_push_39 rfl rfl ?_
                              refine q_getf (pc' := 43) (v := .int (s57 66 0)) ja_Motions_push_40 rfl (by decide) ⟨rfl, by decide⟩ rfl ?_
                              refine q_iload_n (pc' := 44) ja_Motions_push_43 rfl rfl ?_
                              refine q_iast (pc' := 45) ja_Motions_push_44 rfl (by decide) (l := 5) rfl (k113 h2 h4 h50 h92 h94 h96 h97 h107 h117 h127 h129 h131 h132 h134 s56 e56 s57 e57) ?_
                              intro s58 e58
                              refine q_aload_n (pc' := 46) ja_Motions_push_45 rfl rfl ?_
                              refine q_getf (pc' := 49) (v := .ref 70) ja_Motions_push_46 rfl (by decide) ⟨rfl, by decide⟩ rfl ?_
                              refine q_aload_n (pc' := 50) ja_Motions_push_49 rfl rfl ?_
                              refine q_getf (pc' := 53) (v := .int (s58 66 0)) ja_Motions_push_50 rfl (by decide) ⟨rfl, by decide⟩ rfl ?_
                              refine q_iload (pc' := 55) ja_Motions_push_53 rfl rfl ?_
                              refine q_iast (pc' := 56) ja_Motions_push_55 rfl (by decide) (l := 5) rfl (k114 h2 h4 h50 h92 h94 h96 h97 h107 h117 h127 h129 h131 h132 h134 s56 e56 s57 e57 s58 e58) ?_
                              intro s59 e59
                              refine q_aload_n (pc' := 57) ja_Motions_push_56 rfl rfl ?_
                              refine q_dup (pc' := 58) ja_Motions_push_57 rfl rfl ?_
                              refine q_getf (pc' := 61) (v := .int (s59 66 0)) ja_Motions_push_58 rfl (by decide) ⟨rfl, by decide⟩ rfl ?_
                              refine q_iconst (pc' := 62) ja_Motions_push_61 rfl 1 (by decide) ?_
                              refine q_iadd (pc' := 63) ja_Motions_push_62 rfl ?_
                              refine q_putf (pc' := 66) ja_Motions_push_63 rfl (by decide) rfl rfl rfl ?_
                              intro s60 e60
                              refine q_vret ja_Motions_push_66 rfl ?_
                              show q_W _ _ _ _ 91 [some (.ref 0), some (.int a1), some (.int a2), some (.int a3)] [] s60
                              refine q_aload_n (pc' := 92) ja_C_tell_91 rfl rfl ?_
                              refine q_getf (pc' := 95) (v := .ref 65) ja_C_tell_92 rfl (by decide) ⟨rfl, by decide⟩ rfl ?_
                              refine q_getf (pc' := 98) (v := .ref 66) ja_C_tell_95 rfl (by decide) ⟨rfl, by decide⟩ rfl ?_
                              refine q_getf (pc' := 101) (v := .int (s60 66 0)) ja_C_tell_98 rfl (by decide) ⟨rfl, by decide⟩ rfl ?_
                              exact q_iret ja_C_tell_101 rfl rfl (k115 h2 h4 h50 h92 h94 h96 h97 h107 h117 h127 h129 h131 h132 h134 s56 e56 s57 e57 s58 e58 s59 e59 s60 e60)
                          · intro h135
                            refine q_iconst (pc' := 12) ja_Motions_isFull_11 rfl 1 (by decide) ?_
                            refine q_goto ja_Motions_isFull_12 ?_
                            refine q_iret ja_Motions_isFull_16 rfl (by decide) ?_
                            show q_W _ _ _ _ 60 [some (.ref 0), some (.int a1), some (.int a2), some (.int a3)] [.int 1] s
                            refine q_if_eq (pc' := 63) ja_C_tell_60 rfl (fun h => absurd h ((by decide : ¬ (1 : Int32) = 0))) (fun _ => ?_)
                            refine q_bipush (pc' := 65) ja_C_tell_63 rfl (-4) (by decide) ?_
                            exact q_iret ja_C_tell_65 rfl rfl (k116 h2 h4 h50 h92 h94 h96 h97 h107 h117 h127 h129 h131 h135)
              · intro h136
                refine q_bipush (pc' := 34) ja_C_tell_32 rfl (-3) (by decide) ?_
                exact q_iret ja_C_tell_34 rfl rfl (k117 h2 h4 h50 h92 h94 h96 h136)
set_option maxRecDepth 20000 in
theorem t_C_text {G : jv_X} {d : Nat} {B : Option Value → jg_H → Prop} {s : jg_H} 
    (k1 : (s 0 11) < 8 → jv_in (s 0 11) 8 = true)
    (k2 : (s 0 11) < 8 → q_P G d 20 [.ref 117, .ref (93 + 3 * (s 0 11).toNatClampNeg)] s (fun v t => q_W G d jm_C_text B 31 [some (.ref 0), none] (v.toList ++ []) t))
    (k3 : ¬ (s 0 11) < 8 → B (some (.int (-4))) s) :
    q_P G (d + 1) 70 [.ref 0] s B := by
  refine q_in (M := jm_C_text) rfl (Nat.le_of_ble_eq_true rfl) (ls := [some (.ref 0), none]) rfl ?_
  refine q_aload_n (pc' := 1) ja_C_text_0 rfl rfl ?_
  refine q_getf (pc' := 4) (v := .int (s 0 11)) ja_C_text_1 rfl (by decide) ⟨rfl, by decide⟩ rfl ?_
  refine q_aload_n (pc' := 5) ja_C_text_4 rfl rfl ?_
  refine q_getf (pc' := 8) (v := .ref 92) ja_C_text_5 rfl (by decide) ⟨rfl, by decide⟩ rfl ?_
  refine q_alen (pc' := 9) ja_C_text_8 rfl (by decide) (kd := 19) (l := 8) rfl (by decide) (v := 8) (by decide) ?_
  refine q_ic_lt (pc' := 12) ja_C_text_9 rfl ?_ ?_
  · intro h1
    refine q_aload_n (pc' := 16) ja_C_text_15 rfl rfl ?_
    refine q_getf (pc' := 19) (v := .ref 117) ja_C_text_16 rfl (by decide) ⟨rfl, by decide⟩ rfl ?_
    refine q_aload_n (pc' := 20) ja_C_text_19 rfl rfl ?_
    refine q_getf (pc' := 23) (v := .ref 92) ja_C_text_20 rfl (by decide) ⟨rfl, by decide⟩ rfl ?_
    refine q_aload_n (pc' := 24) ja_C_text_23 rfl rfl ?_
    refine q_getf (pc' := 27) (v := .int (s 0 11)) ja_C_text_24 rfl (by decide) ⟨rfl, by decide⟩ rfl ?_
    refine q_aald (pc' := 28) (v := .ref (93 + 3 * (s 0 11).toNatClampNeg)) ja_C_text_27 rfl (by decide) (kd := 19) (l := 8) rfl (by decide) (k1 h1) (f_A92 (f_in (k1 h1))) ?_
    refine q_virt (pc' := 31) (c := 117) (as := [.ref (93 + 3 * (s 0 11).toNatClampNeg)]) (r := []) ja_C_text_28 rfl rfl rfl (by decide) ⟨rfl, by decide⟩ ?_
    exact (k2 h1)
  · intro h2
    refine q_bipush (pc' := 14) ja_C_text_12 rfl (-4) (by decide) ?_
    exact q_iret ja_C_text_14 rfl rfl (k3 h2)
set_option maxRecDepth 20000 in
theorem t_C_text_31 {G : jv_X} {d : Nat} {B : Option Value → jg_H → Prop} {s : jg_H} (y0 : Int32)
    (k1 : y0 = (-1) → ∀ s1 : jg_H, s1 = jg_up s 0 11 ((s 0 11) + 1) → B (some (.int ((s1 0 11) - 1))) s1)
    (k2 : ¬ y0 = (-1) → B (some (.int ((-100) - y0))) s) :
    q_W G d jm_C_text B 31 [some (.ref 0), none] [.int y0] s := by
  refine q_istore_n (pc' := 32) (ls' := [some (.ref 0), some (.int y0)]) ja_C_text_31 rfl ⟨Nat.le_of_ble_eq_true rfl, rfl⟩ rfl ?_
  refine q_iload_n (pc' := 33) ja_C_text_32 rfl rfl ?_
  refine q_iconst (pc' := 34) ja_C_text_33 rfl (-1) (by decide) ?_
  refine q_ic_eq (pc' := 37) ja_C_text_34 rfl ?_ ?_
  · intro h1
    refine q_aload_n (pc' := 43) ja_C_text_42 rfl rfl ?_
    refine q_dup (pc' := 44) ja_C_text_43 rfl rfl ?_
    refine q_getf (pc' := 47) (v := .int (s 0 11)) ja_C_text_44 rfl (by decide) ⟨rfl, by decide⟩ rfl ?_
    refine q_iconst (pc' := 48) ja_C_text_47 rfl 1 (by decide) ?_
    refine q_iadd (pc' := 49) ja_C_text_48 rfl ?_
    refine q_putf (pc' := 52) ja_C_text_49 rfl (by decide) rfl rfl rfl ?_
    intro s1 e1
    refine q_aload_n (pc' := 53) ja_C_text_52 rfl rfl ?_
    refine q_getf (pc' := 56) (v := .int (s1 0 11)) ja_C_text_53 rfl (by decide) ⟨rfl, by decide⟩ rfl ?_
    refine q_iconst (pc' := 57) ja_C_text_56 rfl 1 (by decide) ?_
    refine q_isub (pc' := 58) ja_C_text_57 rfl ?_
    exact q_iret ja_C_text_58 rfl rfl (k1 h1 s1 e1)
  · intro h2
    refine q_bipush (pc' := 39) ja_C_text_37 rfl (-100) (by decide) ?_
    refine q_iload_n (pc' := 40) ja_C_text_39 rfl rfl ?_
    refine q_isub (pc' := 41) ja_C_text_40 rfl ?_
    exact q_iret ja_C_text_41 rfl rfl (k2 h2)
set_option maxRecDepth 20000 in
theorem t_C_tray {G : jv_X} {d : Nat} {B : Option Value → jg_H → Prop} {s : jg_H} (a1 : Int32) (a2 : Int32)
    (k1 : a1 < 0 → B (some (.int (-2))) s)
    (k2 : ¬ a1 < 0 → ¬ a1 < 4 → B (some (.int (-2))) s)
    (k3 : ¬ a1 < 0 → a1 < 4 → a2 ≤ 40 → ¬ a2 < (-1) → q_P G (d + 1) 126 [.ref (138 + 2 * a1.toNatClampNeg), .int a2] s (fun v t => q_W G (d + 1) jm_C_tray B 34 [some (.ref 0), some (.int a1), some (.int a2)] (v.toList ++ []) t))
    (k4 : ¬ a1 < 0 → a1 < 4 → a2 ≤ 40 → a2 < (-1) → B (some (.int (-14))) s)
    (k5 : ¬ a1 < 0 → a1 < 4 → ¬ a2 ≤ 40 → B (some (.int (-2))) s) :
    q_P G (d + 2) 124 [.ref 0, .int a1, .int a2] s B := by
  refine q_in (M := jm_C_tray) rfl (Nat.le_of_ble_eq_true rfl) (ls := [some (.ref 0), some (.int a1), some (.int a2)]) rfl ?_
  refine q_iload_n (pc' := 1) ja_C_tray_0 rfl rfl ?_
  refine q_stat (pc' := 4) (as := [.int a1]) (r := []) ja_C_tray_1 rfl (by decide) rfl rfl ?_
  refine q_in (M := jm_C_isTray) rfl (Nat.le_of_ble_eq_true rfl) (ls := [some (.int a1)]) rfl ?_
  refine q_iload_n (pc' := 1) ja_C_isTray_0 rfl rfl ?_
  refine q_if_lt (pc' := 4) ja_C_isTray_1 rfl ?_ ?_
  · intro h1
    refine q_iconst (pc' := 14) ja_C_isTray_13 rfl 0 (by decide) ?_
    refine q_iret ja_C_isTray_14 rfl (by decide) ?_
    show q_W _ _ _ _ 4 [some (.ref 0), some (.int a1), some (.int a2)] [.int 0] s
    refine q_if_eq (pc' := 7) ja_C_tray_4 rfl (fun _ => ?_) (fun h => absurd ((by decide : (0 : Int32) = 0)) h)
    refine q_bipush (pc' := 15) ja_C_tray_13 rfl (-2) (by decide) ?_
    exact q_iret ja_C_tray_15 rfl rfl (k1 h1)
  · intro h2
    refine q_iload_n (pc' := 5) ja_C_isTray_4 rfl rfl ?_
    refine q_iconst (pc' := 6) ja_C_isTray_5 rfl 4 (by decide) ?_
    refine q_ic_ge (pc' := 9) ja_C_isTray_6 rfl ?_ ?_
    · intro h3
      refine q_iconst (pc' := 14) ja_C_isTray_13 rfl 0 (by decide) ?_
      refine q_iret ja_C_isTray_14 rfl (by decide) ?_
      show q_W _ _ _ _ 4 [some (.ref 0), some (.int a1), some (.int a2)] [.int 0] s
      refine q_if_eq (pc' := 7) ja_C_tray_4 rfl (fun _ => ?_) (fun h => absurd ((by decide : (0 : Int32) = 0)) h)
      refine q_bipush (pc' := 15) ja_C_tray_13 rfl (-2) (by decide) ?_
      exact q_iret ja_C_tray_15 rfl rfl (k2 h2 h3)
    · intro h4
      refine q_iconst (pc' := 10) ja_C_isTray_9 rfl 1 (by decide) ?_
      refine q_goto ja_C_isTray_10 ?_
      refine q_iret ja_C_isTray_14 rfl (by decide) ?_
      show q_W _ _ _ _ 4 [some (.ref 0), some (.int a1), some (.int a2)] [.int 1] s
      refine q_if_eq (pc' := 7) ja_C_tray_4 rfl (fun h => absurd h ((by decide : ¬ (1 : Int32) = 0))) (fun _ => ?_)
      refine q_iload_n (pc' := 8) ja_C_tray_7 rfl rfl ?_
      refine q_bipush (pc' := 10) ja_C_tray_8 rfl 40 (by decide) ?_
      refine q_ic_le (pc' := 13) ja_C_tray_10 rfl ?_ ?_
      · intro h5
        refine q_iload_n (pc' := 17) ja_C_tray_16 rfl rfl ?_
        refine q_iconst (pc' := 18) ja_C_tray_17 rfl (-1) (by decide) ?_
        refine q_ic_ge (pc' := 21) ja_C_tray_18 rfl ?_ ?_
        · intro h6
          refine q_aload_n (pc' := 25) ja_C_tray_24 rfl rfl ?_
          refine q_getf (pc' := 28) (v := .ref 137) ja_C_tray_25 rfl (by decide) ⟨rfl, by decide⟩ rfl ?_
          refine q_iload_n (pc' := 29) ja_C_tray_28 rfl rfl ?_
          refine q_aald (pc' := 30) (v := .ref (138 + 2 * a1.toNatClampNeg)) ja_C_tray_29 rfl (by decide) (kd := 20) (l := 4) rfl (by decide) (q_inr (l := 4) (by decide) h2 h4) (f_A137 (f_in (q_inr (l := 4) (by decide) h2 h4))) ?_
          refine q_iload_n (pc' := 31) ja_C_tray_30 rfl rfl ?_
          refine q_virt (pc' := 34) (c := (138 + 2 * a1.toNatClampNeg)) (as := [.int a2]) (r := []) ja_C_tray_31 rfl rfl rfl (f_10_c (f_m137 (f_in (q_inr (l := 4) (by decide) h2 h4)))) ⟨by rw [f_10_k (f_m137 (f_in (q_inr (l := 4) (by decide) h2 h4)))], by decide⟩ ?_
          exact (k3 h2 h4 h5 h6)
        · intro h7
          refine q_bipush (pc' := 23) ja_C_tray_21 rfl (-14) (by decide) ?_
          exact q_iret ja_C_tray_23 rfl rfl (k4 h2 h4 h5 h7)
      · intro h8
        refine q_bipush (pc' := 15) ja_C_tray_13 rfl (-2) (by decide) ?_
        exact q_iret ja_C_tray_15 rfl rfl (k5 h2 h4 h8)
set_option maxRecDepth 20000 in
theorem t_C_tray_34 {G : jv_X} {d : Nat} {B : Option Value → jg_H → Prop} {s : jg_H} (x1 : Int32) (x2 : Int32)
    (k1 : B (some (.int 1)) s) :
    q_W G (d + 1) jm_C_tray B 34 [some (.ref 0), some (.int x1), some (.int x2)] [] s := by
  refine q_iconst (pc' := 35) ja_C_tray_34 rfl 1 (by decide) ?_
  exact q_iret ja_C_tray_35 rfl rfl k1
set_option maxRecDepth 20000 in
theorem t_C_vote {G : jv_X} {d : Nat} {B : Option Value → jg_H → Prop} {s : jg_H} 
    (k1 : ((s 60 0) - 1) < 0 → B (some (.int (-21))) s)
    (k2 : ¬ ((s 60 0) - 1) < 0 → ¬ ((s 60 0) - 1) < (s 60 0) → B (some (.int (-21))) s)
    (k3 : ¬ ((s 60 0) - 1) < 0 → ((s 60 0) - 1) < (s 60 0) → ¬ ((s 60 0) - 1) < (s 60 1) → B (some (.int (-21))) s)
    (k4 : ¬ ((s 60 0) - 1) < 0 → ((s 60 0) - 1) < (s 60 0) → ((s 60 0) - 1) < (s 60 1) → (s 0 19) < 100 → jv_in ((s 60 0) - 1) 8 = true)
    (k5 : ¬ ((s 60 0) - 1) < 0 → ((s 60 0) - 1) < (s 60 0) → ((s 60 0) - 1) < (s 60 1) → (s 0 19) < 100 → jv_in ((s 60 0) - 1) 8 = true)
    (k6 : ¬ ((s 60 0) - 1) < 0 → ((s 60 0) - 1) < (s 60 0) → ((s 60 0) - 1) < (s 60 1) → (s 0 19) < 100 → q_P G (d + 2) 87 [.ref 0, .int 3, .int (s 61 ((s 60 0) - 1).toNatClampNeg), .int (s 62 ((s 60 0) - 1).toNatClampNeg)] s (fun v t => q_W G (d + 2) jm_C_vote B 63 [some (.ref 0), some (.int ((s 60 0) - 1)), some (.int (s 61 ((s 60 0) - 1).toNatClampNeg)), some (.int (s 62 ((s 60 0) - 1).toNatClampNeg))] (v.toList ++ []) t))
    (k7 : ¬ ((s 60 0) - 1) < 0 → ((s 60 0) - 1) < (s 60 0) → ((s 60 0) - 1) < (s 60 1) → ¬ (s 0 19) < 100 → B (some (.int (-22))) s) :
    q_P G (d + 3) 92 [.ref 0] s B := by
  refine q_in (M := jm_C_vote) rfl (Nat.le_of_ble_eq_true rfl) (ls := [some (.ref 0), none, none, none]) rfl ?_
  refine q_aload_n (pc' := 1) ja_C_vote_0 rfl rfl ?_
  refine q_getf (pc' := 4) (v := .ref 60) ja_C_vote_1 rfl (by decide) ⟨rfl, by decide⟩ rfl ?_
  refine q_getf (pc' := 7) (v := .int (s 60 0)) ja_C_vote_4 rfl (by decide) ⟨rfl, by decide⟩ rfl ?_
  refine q_iconst (pc' := 8) ja_C_vote_7 rfl 1 (by decide) ?_
  refine q_isub (pc' := 9) ja_C_vote_8 rfl ?_
  refine q_istore_n (pc' := 10) (ls' := [some (.ref 0), some (.int ((s 60 0) - 1)), none, none]) ja_C_vote_9 rfl ⟨Nat.le_of_ble_eq_true rfl, rfl⟩ rfl ?_
  refine q_aload_n (pc' := 11) ja_C_vote_10 rfl rfl ?_
  refine q_getf (pc' := 14) (v := .ref 60) ja_C_vote_11 rfl (by decide) ⟨rfl, by decide⟩ rfl ?_
  refine q_iload_n (pc' := 15) ja_C_vote_14 rfl rfl ?_
  refine q_virt (pc' := 18) (c := 60) (as := [.int ((s 60 0) - 1)]) (r := []) ja_C_vote_15 rfl rfl rfl (by decide) ⟨rfl, by decide⟩ ?_
  refine q_in (M := jm_Motions_has) rfl (Nat.le_of_ble_eq_true rfl) (ls := [some (.ref 60), some (.int ((s 60 0) - 1))]) rfl ?_
  refine q_iload_n (pc' := 1) ja_Motions_has_0 rfl rfl ?_
  refine q_if_lt (pc' := 4) ja_Motions_has_1 rfl ?_ ?_
  · intro h1
    refine q_iconst (pc' := 25) ja_Motions_has_24 rfl 0 (by decide) ?_
    refine q_iret ja_Motions_has_25 rfl (by decide) ?_
    show q_W _ _ _ _ 18 [some (.ref 0), some (.int ((s 60 0) - 1)), none, none] [.int 0] s
    refine q_if_ne (pc' := 21) ja_C_vote_18 rfl (fun h => absurd ((by decide : (0 : Int32) = 0)) h) (fun _ => ?_)
    refine q_bipush (pc' := 23) ja_C_vote_21 rfl (-21) (by decide) ?_
    exact q_iret ja_C_vote_23 rfl rfl (k1 h1)
  · intro h2
    refine q_iload_n (pc' := 5) ja_Motions_has_4 rfl rfl ?_
    refine q_aload_n (pc' := 6) ja_Motions_has_5 rfl rfl ?_
    refine q_getf (pc' := 9) (v := .int (s 60 0)) ja_Motions_has_6 rfl (by decide) ⟨rfl, by decide⟩ rfl ?_
    refine q_ic_ge (pc' := 12) ja_Motions_has_9 rfl ?_ ?_
    · intro h3
      refine q_iconst (pc' := 25) ja_Motions_has_24 rfl 0 (by decide) ?_
      refine q_iret ja_Motions_has_25 rfl (by decide) ?_
      show q_W _ _ _ _ 18 [some (.ref 0), some (.int ((s 60 0) - 1)), none, none] [.int 0] s
      refine q_if_ne (pc' := 21) ja_C_vote_18 rfl (fun h => absurd ((by decide : (0 : Int32) = 0)) h) (fun _ => ?_)
      refine q_bipush (pc' := 23) ja_C_vote_21 rfl (-21) (by decide) ?_
      exact q_iret ja_C_vote_23 rfl rfl (k2 h2 h3)
    · intro h4
      refine q_iload_n (pc' := 13) ja_Motions_has_12 rfl rfl ?_
      refine q_aload_n (pc' := 14) ja_Motions_has_13 rfl rfl ?_
      refine q_getf (pc' := 17) (v := .int (s 60 1)) ja_Motions_has_14 rfl (by decide) ⟨rfl, by decide⟩ rfl ?_
      refine q_ic_ge (pc' := 20) ja_Motions_has_17 rfl ?_ ?_
      · intro h5
        refine q_iconst (pc' := 25) ja_Motions_has_24 rfl 0 (by decide) ?_
        refine q_iret ja_Motions_has_25 rfl (by decide) ?_
        show q_W _ _ _ _ 18 [some (.ref 0), some (.int ((s 60 0) - 1)), none, none] [.int 0] s
        refine q_if_ne (pc' := 21) ja_C_vote_18 rfl (fun h => absurd ((by decide : (0 : Int32) = 0)) h) (fun _ => ?_)
        refine q_bipush (pc' := 23) ja_C_vote_21 rfl (-21) (by decide) ?_
        exact q_iret ja_C_vote_23 rfl rfl (k3 h2 h4 h5)
      · intro h6
        refine q_iconst (pc' := 21) ja_Motions_has_20 rfl 1 (by decide) ?_
        refine q_goto ja_Motions_has_21 ?_
        refine q_iret ja_Motions_has_25 rfl (by decide) ?_
        show q_W _ _ _ _ 18 [some (.ref 0), some (.int ((s 60 0) - 1)), none, none] [.int 1] s
        refine q_if_ne (pc' := 21) ja_C_vote_18 rfl (fun _ => ?_) (fun h => absurd h ((by decide : ¬ (1 : Int32) = 0)))
        refine q_aload_n (pc' := 25) ja_C_vote_24 rfl rfl ?_
        refine q_getf (pc' := 28) (v := .int (s 0 19)) ja_C_vote_25 rfl (by decide) ⟨rfl, by decide⟩ rfl ?_
        refine q_bipush (pc' := 30) ja_C_vote_28 rfl 100 (by decide) ?_
        refine q_ic_lt (pc' := 33) ja_C_vote_30 rfl ?_ ?_
        · intro h7
          refine q_aload_n (pc' := 37) ja_C_vote_36 rfl rfl ?_
          refine q_getf (pc' := 40) (v := .ref 60) ja_C_vote_37 rfl (by decide) ⟨rfl, by decide⟩ rfl ?_
          refine q_getf (pc' := 43) (v := .ref 61) ja_C_vote_40 rfl (by decide) ⟨rfl, by decide⟩ rfl ?_
          refine q_iload_n (pc' := 44) ja_C_vote_43 rfl rfl ?_
          refine q_iald (pc' := 45) (v := .int (s 61 ((s 60 0) - 1).toNatClampNeg)) ja_C_vote_44 rfl (by decide) (l := 8) rfl (k4 h2 h4 h6 h7) rfl ?_
          refine q_istore_n (pc' := 46) (ls' := [some (.ref 0), some (.int ((s 60 0) - 1)), some (.int (s 61 ((s 60 0) - 1).toNatClampNeg)), none]) ja_C_vote_45 rfl ⟨Nat.le_of_ble_eq_true rfl, rfl⟩ rfl ?_
          refine q_aload_n (pc' := 47) ja_C_vote_46 rfl rfl ?_
          refine q_getf (pc' := 50) (v := .ref 60) ja_C_vote_47 rfl (by decide) ⟨rfl, by decide⟩ rfl ?_
          refine q_getf (pc' := 53) (v := .ref 62) ja_C_vote_50 rfl (by decide) ⟨rfl, by decide⟩ rfl ?_
          refine q_iload_n (pc' := 54) ja_C_vote_53 rfl rfl ?_
          refine q_iald (pc' := 55) (v := .int (s 62 ((s 60 0) - 1).toNatClampNeg)) ja_C_vote_54 rfl (by decide) (l := 8) rfl (k5 h2 h4 h6 h7) rfl ?_
          refine q_istore_n (pc' := 56) (ls' := [some (.ref 0), some (.int ((s 60 0) - 1)), some (.int (s 61 ((s 60 0) - 1).toNatClampNeg)), some (.int (s 62 ((s 60 0) - 1).toNatClampNeg))]) ja_C_vote_55 rfl ⟨Nat.le_of_ble_eq_true rfl, rfl⟩ rfl ?_
          refine q_aload_n (pc' := 57) ja_C_vote_56 rfl rfl ?_
          refine q_iconst (pc' := 58) ja_C_vote_57 rfl 3 (by decide) ?_
          refine q_iload_n (pc' := 59) ja_C_vote_58 rfl rfl ?_
          refine q_iload_n (pc' := 60) ja_C_vote_59 rfl rfl ?_
          refine q_virt (pc' := 63) (c := 0) (as := [.int 3, .int (s 61 ((s 60 0) - 1).toNatClampNeg), .int (s 62 ((s 60 0) - 1).toNatClampNeg)]) (r := []) ja_C_vote_60 rfl rfl rfl (by decide) ⟨rfl, by decide⟩ ?_
          exact (k6 h2 h4 h6 h7)
        · intro h8
          refine q_bipush (pc' := 35) ja_C_vote_33 rfl (-22) (by decide) ?_
          exact q_iret ja_C_vote_35 rfl rfl (k7 h2 h4 h6 h8)
set_option maxRecDepth 20000 in
theorem t_C_vote_63 {G : jv_X} {d : Nat} {B : Option Value → jg_H → Prop} {s : jg_H} (x1 : Int32) (x2 : Int32) (x3 : Int32) (y0 : Int32)
    (k1 : ¬ y0 = 0 → (s 0 6) < 0 → jv_in x1 8 = true)
    (k2 : ¬ y0 = 0 → (s 0 6) < 0 → q_P G (d + 2) 93 [.ref 0, .ref 122, .ref 58, .ref 60, .int x1, .int (s 63 x1.toNatClampNeg)] s (fun v t => q_W G (d + 2) jm_C_vote B 95 [some (.ref 0), some (.int x1), some (.int x2), some (.int x3)] (v.toList ++ []) t))
    (k3 : ¬ y0 = 0 → ¬ (s 0 6) < 0 → ¬ (s 0 6) < (s 0 3) → jv_in x1 8 = true)
    (k4 : ¬ y0 = 0 → ¬ (s 0 6) < 0 → ¬ (s 0 6) < (s 0 3) → q_P G (d + 2) 93 [.ref 0, .ref 122, .ref 58, .ref 60, .int x1, .int (s 63 x1.toNatClampNeg)] s (fun v t => q_W G (d + 2) jm_C_vote B 95 [some (.ref 0), some (.int x1), some (.int x2), some (.int x3)] (v.toList ++ []) t))
    (k5 : ¬ y0 = 0 → ¬ (s 0 6) < 0 → (s 0 6) < (s 0 3) → ¬ (s 0 6) < 8 → jv_in x1 8 = true)
    (k6 : ¬ y0 = 0 → ¬ (s 0 6) < 0 → (s 0 6) < (s 0 3) → ¬ (s 0 6) < 8 → q_P G (d + 2) 93 [.ref 0, .ref 122, .ref 58, .ref 60, .int x1, .int (s 63 x1.toNatClampNeg)] s (fun v t => q_W G (d + 2) jm_C_vote B 95 [some (.ref 0), some (.int x1), some (.int x2), some (.int x3)] (v.toList ++ []) t))
    (k7 : ¬ y0 = 0 → ¬ (s 0 6) < 0 → (s 0 6) < (s 0 3) → (s 0 6) < 8 → jv_in x1 8 = true)
    (k8 : ¬ y0 = 0 → ¬ (s 0 6) < 0 → (s 0 6) < (s 0 3) → (s 0 6) < 8 → q_P G (d + 2) 93 [.ref 0, .ref 122, .ref ((33 + 3 * (s 0 6).toNatClampNeg) + 1), .ref 60, .int x1, .int (s 63 x1.toNatClampNeg)] s (fun v t => q_W G (d + 2) jm_C_vote B 95 [some (.ref 0), some (.int x1), some (.int x2), some (.int x3)] (v.toList ++ []) t))
    (k9 : y0 = 0 → B (some (.int (-23))) s) :
    q_W G (d + 2) jm_C_vote B 63 [some (.ref 0), some (.int x1), some (.int x2), some (.int x3)] [.int y0] s := by
  refine q_if_ne (pc' := 66) ja_C_vote_63 rfl ?_ ?_
  · intro h1
    refine q_aload_n (pc' := 70) ja_C_vote_69 rfl rfl ?_
    refine q_aload_n (pc' := 71) ja_C_vote_70 rfl rfl ?_
    refine q_getf (pc' := 74) (v := .ref 122) ja_C_vote_71 rfl (by decide) ⟨rfl, by decide⟩ rfl ?_
    refine q_aload_n (pc' := 75) ja_C_vote_74 rfl rfl ?_
    refine q_virt (pc' := 78) (c := 0) (as := []) (r := [.ref 122, .ref 0]) ja_C_vote_75 rfl rfl rfl (by decide) ⟨rfl, by decide⟩ ?_
    refine q_in (M := jm_C_floor) rfl (Nat.le_of_ble_eq_true rfl) (ls := [some (.ref 0)]) rfl ?_
    refine q_aload_n (pc' := 1) ja_C_floor_0 rfl rfl ?_
    refine q_aload_n (pc' := 2) ja_C_floor_1 rfl rfl ?_
    refine q_getf (pc' := 5) (v := .int (s 0 6)) ja_C_floor_2 rfl (by decide) ⟨rfl, by decide⟩ rfl ?_
    refine q_virt (pc' := 8) (c := 0) (as := [.int (s 0 6)]) (r := []) ja_C_floor_5 rfl rfl rfl (by decide) ⟨rfl, by decide⟩ ?_
    refine q_in (M := jm_C_isBill) rfl (Nat.le_of_ble_eq_true rfl) (ls := [some (.ref 0), some (.int (s 0 6))]) rfl ?_
    refine q_iload_n (pc' := 1) ja_C_isBill_0 rfl rfl ?_
    refine q_if_lt (pc' := 4) ja_C_isBill_1 rfl ?_ ?_
    · intro h2
      refine q_iconst (pc' := 26) ja_C_isBill_25 rfl 0 (by decide) ?_
      refine q_iret ja_C_isBill_26 rfl (by decide) ?_
      show q_W _ _ _ _ 8 [some (.ref 0)] [.int 0] s
      refine q_if_eq (pc' := 11) ja_C_floor_8 rfl (fun _ => ?_) (fun h => absurd ((by decide : (0 : Int32) = 0)) h)
      refine q_aload_n (pc' := 27) ja_C_floor_26 rfl rfl ?_
      refine q_getf (pc' := 30) (v := .ref 58) ja_C_floor_27 rfl (by decide) ⟨rfl, by decide⟩ rfl ?_
      refine q_aret ja_C_floor_30 rfl ?_
      show q_W _ _ _ _ 78 [some (.ref 0), some (.int x1), some (.int x2), some (.int x3)] [.ref 58, .ref 122, .ref 0] s
      refine q_aload_n (pc' := 79) ja_C_vote_78 rfl rfl ?_
      refine q_getf (pc' := 82) (v := .ref 60) ja_C_vote_79 rfl (by decide) ⟨rfl, by decide⟩ rfl ?_
      refine q_iload_n (pc' := 83) ja_C_vote_82 rfl rfl ?_
      refine q_aload_n (pc' := 84) ja_C_vote_83 rfl rfl ?_
      refine q_getf (pc' := 87) (v := .ref 60) ja_C_vote_84 rfl (by decide) ⟨rfl, by decide⟩ rfl ?_
      refine q_getf (pc' := 90) (v := .ref 63) ja_C_vote_87 rfl (by decide) ⟨rfl, by decide⟩ rfl ?_
      refine q_iload_n (pc' := 91) ja_C_vote_90 rfl rfl ?_
      refine q_iald (pc' := 92) (v := .int (s 63 x1.toNatClampNeg)) ja_C_vote_91 rfl (by decide) (l := 8) rfl (k1 h1 h2) rfl ?_
      refine q_virt (pc' := 95) (c := 0) (as := [.ref 122, .ref 58, .ref 60, .int x1, .int (s 63 x1.toNatClampNeg)]) (r := []) ja_C_vote_92 rfl rfl rfl (by decide) ⟨rfl, by decide⟩ ?_
      exact (k2 h1 h2)
    · intro h3
      refine q_iload_n (pc' := 5) ja_C_isBill_4 rfl rfl ?_
      refine q_aload_n (pc' := 6) ja_C_isBill_5 rfl rfl ?_
      refine q_getf (pc' := 9) (v := .int (s 0 3)) ja_C_isBill_6 rfl (by decide) ⟨rfl, by decide⟩ rfl ?_
      refine q_ic_ge (pc' := 12) ja_C_isBill_9 rfl ?_ ?_
      · intro h4
        refine q_iconst (pc' := 26) ja_C_isBill_25 rfl 0 (by decide) ?_
        refine q_iret ja_C_isBill_26 rfl (by decide) ?_
        show q_W _ _ _ _ 8 [some (.ref 0)] [.int 0] s
        refine q_if_eq (pc' := 11) ja_C_floor_8 rfl (fun _ => ?_) (fun h => absurd ((by decide : (0 : Int32) = 0)) h)
        refine q_aload_n (pc' := 27) ja_C_floor_26 rfl rfl ?_
        refine q_getf (pc' := 30) (v := .ref 58) ja_C_floor_27 rfl (by decide) ⟨rfl, by decide⟩ rfl ?_
        refine q_aret ja_C_floor_30 rfl ?_
        show q_W _ _ _ _ 78 [some (.ref 0), some (.int x1), some (.int x2), some (.int x3)] [.ref 58, .ref 122, .ref 0] s
        refine q_aload_n (pc' := 79) ja_C_vote_78 rfl rfl ?_
        refine q_getf (pc' := 82) (v := .ref 60) ja_C_vote_79 rfl (by decide) ⟨rfl, by decide⟩ rfl ?_
        refine q_iload_n (pc' := 83) ja_C_vote_82 rfl rfl ?_
        refine q_aload_n (pc' := 84) ja_C_vote_83 rfl rfl ?_
        refine q_getf (pc' := 87) (v := .ref 60) ja_C_vote_84 rfl (by decide) ⟨rfl, by decide⟩ rfl ?_
        refine q_getf (pc' := 90) (v := .ref 63) ja_C_vote_87 rfl (by decide) ⟨rfl, by decide⟩ rfl ?_
        refine q_iload_n (pc' := 91) ja_C_vote_90 rfl rfl ?_
        refine q_iald (pc' := 92) (v := .int (s 63 x1.toNatClampNeg)) ja_C_vote_91 rfl (by decide) (l := 8) rfl (k3 h1 h3 h4) rfl ?_
        refine q_virt (pc' := 95) (c := 0) (as := [.ref 122, .ref 58, .ref 60, .int x1, .int (s 63 x1.toNatClampNeg)]) (r := []) ja_C_vote_92 rfl rfl rfl (by decide) ⟨rfl, by decide⟩ ?_
        exact (k4 h1 h3 h4)
      · intro h5
        refine q_iload_n (pc' := 13) ja_C_isBill_12 rfl rfl ?_
        refine q_aload_n (pc' := 14) ja_C_isBill_13 rfl rfl ?_
        refine q_getf (pc' := 17) (v := .ref 32) ja_C_isBill_14 rfl (by decide) ⟨rfl, by decide⟩ rfl ?_
        refine q_alen (pc' := 18) ja_C_isBill_17 rfl (by decide) (kd := 17) (l := 8) rfl (by decide) (v := 8) (by decide) ?_
        refine q_ic_ge (pc' := 21) ja_C_isBill_18 rfl ?_ ?_
        · intro h6
          refine q_iconst (pc' := 26) ja_C_isBill_25 rfl 0 (by decide) ?_
          refine q_iret ja_C_isBill_26 rfl (by decide) ?_
          show q_W _ _ _ _ 8 [some (.ref 0)] [.int 0] s
          refine q_if_eq (pc' := 11) ja_C_floor_8 rfl (fun _ => ?_) (fun h => absurd ((by decide : (0 : Int32) = 0)) h)
          refine q_aload_n (pc' := 27) ja_C_floor_26 rfl rfl ?_
          refine q_getf (pc' := 30) (v := .ref 58) ja_C_floor_27 rfl (by decide) ⟨rfl, by decide⟩ rfl ?_
          refine q_aret ja_C_floor_30 rfl ?_
          show q_W _ _ _ _ 78 [some (.ref 0), some (.int x1), some (.int x2), some (.int x3)] [.ref 58, .ref 122, .ref 0] s
          refine q_aload_n (pc' := 79) ja_C_vote_78 rfl rfl ?_
          refine q_getf (pc' := 82) (v := .ref 60) ja_C_vote_79 rfl (by decide) ⟨rfl, by decide⟩ rfl ?_
          refine q_iload_n (pc' := 83) ja_C_vote_82 rfl rfl ?_
          refine q_aload_n (pc' := 84) ja_C_vote_83 rfl rfl ?_
          refine q_getf (pc' := 87) (v := .ref 60) ja_C_vote_84 rfl (by decide) ⟨rfl, by decide⟩ rfl ?_
          refine q_getf (pc' := 90) (v := .ref 63) ja_C_vote_87 rfl (by decide) ⟨rfl, by decide⟩ rfl ?_
          refine q_iload_n (pc' := 91) ja_C_vote_90 rfl rfl ?_
          refine q_iald (pc' := 92) (v := .int (s 63 x1.toNatClampNeg)) ja_C_vote_91 rfl (by decide) (l := 8) rfl (k5 h1 h3 h5 h6) rfl ?_
          refine q_virt (pc' := 95) (c := 0) (as := [.ref 122, .ref 58, .ref 60, .int x1, .int (s 63 x1.toNatClampNeg)]) (r := []) ja_C_vote_92 rfl rfl rfl (by decide) ⟨rfl, by decide⟩ ?_
          exact (k6 h1 h3 h5 h6)
        · intro h7
          refine q_iconst (pc' := 22) ja_C_isBill_21 rfl 1 (by decide) ?_
          refine q_goto ja_C_isBill_22 ?_
          refine q_iret ja_C_isBill_26 rfl (by decide) ?_
          show q_W _ _ _ _ 8 [some (.ref 0)] [.int 1] s
          refine q_if_eq (pc' := 11) ja_C_floor_8 rfl (fun h => absurd h ((by decide : ¬ (1 : Int32) = 0))) (fun _ => ?_)
          refine q_aload_n (pc' := 12) ja_C_floor_11 rfl rfl ?_
          refine q_getf (pc' := 15) (v := .ref 32) ja_C_floor_12 rfl (by decide) ⟨rfl, by decide⟩ rfl ?_
          refine q_aload_n (pc' := 16) ja_C_floor_15 rfl rfl ?_
          refine q_getf (pc' := 19) (v := .int (s 0 6)) ja_C_floor_16 rfl (by decide) ⟨rfl, by decide⟩ rfl ?_
          refine q_aald (pc' := 20) (v := .ref (33 + 3 * (s 0 6).toNatClampNeg)) ja_C_floor_19 rfl (by decide) (kd := 17) (l := 8) rfl (by decide) (q_inr (l := 8) (by decide) h3 h7) (f_A32 (f_in (q_inr (l := 8) (by decide) h3 h7))) ?_
          refine q_getf (pc' := 23) (v := .ref ((33 + 3 * (s 0 6).toNatClampNeg) + 1)) ja_C_floor_20 rfl (f_1_c (f_m32 (f_in (q_inr (l := 8) (by decide) h3 h7)))) ⟨by rw [f_1_k (f_m32 (f_in (q_inr (l := 8) (by decide) h3 h7)))], by decide⟩ (f_1_g2 (f_m32 (f_in (q_inr (l := 8) (by decide) h3 h7)))) ?_
          refine q_goto ja_C_floor_23 ?_
          refine q_aret ja_C_floor_30 rfl ?_
          show q_W _ _ _ _ 78 [some (.ref 0), some (.int x1), some (.int x2), some (.int x3)] [.ref ((33 + 3 * (s 0 6).toNatClampNeg) + 1), .ref 122, .ref 0] s
          refine q_aload_n (pc' := 79) ja_C_vote_78 rfl rfl ?_
          refine q_getf (pc' := 82) (v := .ref 60) ja_C_vote_79 rfl (by decide) ⟨rfl, by decide⟩ rfl ?_
          refine q_iload_n (pc' := 83) ja_C_vote_82 rfl rfl ?_
          refine q_aload_n (pc' := 84) ja_C_vote_83 rfl rfl ?_
          refine q_getf (pc' := 87) (v := .ref 60) ja_C_vote_84 rfl (by decide) ⟨rfl, by decide⟩ rfl ?_
          refine q_getf (pc' := 90) (v := .ref 63) ja_C_vote_87 rfl (by decide) ⟨rfl, by decide⟩ rfl ?_
          refine q_iload_n (pc' := 91) ja_C_vote_90 rfl rfl ?_
          refine q_iald (pc' := 92) (v := .int (s 63 x1.toNatClampNeg)) ja_C_vote_91 rfl (by decide) (l := 8) rfl (k7 h1 h3 h5 h7) rfl ?_
          refine q_virt (pc' := 95) (c := 0) (as := [.ref 122, .ref ((33 + 3 * (s 0 6).toNatClampNeg) + 1), .ref 60, .int x1, .int (s 63 x1.toNatClampNeg)]) (r := []) ja_C_vote_92 rfl rfl rfl (by decide) ⟨rfl, by decide⟩ ?_
          exact (k8 h1 h3 h5 h7)
  · intro h8
    refine q_bipush (pc' := 68) ja_C_vote_66 rfl (-23) (by decide) ?_
    exact q_iret ja_C_vote_68 rfl rfl (k9 h8)
set_option maxRecDepth 20000 in
theorem t_C_vote_95 {G : jv_X} {d : Nat} {B : Option Value → jg_H → Prop} {s : jg_H} (x1 : Int32) (x2 : Int32) (x3 : Int32)
    (k1 : x3 < 0 → ∀ s1 : jg_H, s1 = jg_up s 120 0 x2 → ∀ s2 : jg_H, s2 = jg_up s1 120 1 (s 60 0) → ∀ s3 : jg_H, s3 = jg_up s2 120 3 0 → ∀ s4 : jg_H, s4 = jg_up s3 120 6 (s 122 0) → ∀ s5 : jg_H, s5 = jg_up s4 120 7 (s 122 1) → q_P G (d + 2) 75 [.ref 0, .int (s5 0 12), .int 2] s5 (fun v t => q_W G (d + 2) jm_C_vote B 142 [some (.ref 0), some (.int x1), some (.int x2), some (.int x3)] (v.toList ++ [.ref 122]) t))
    (k2 : ¬ x3 < 0 → ¬ x3 < (s 0 1) → ∀ s6 : jg_H, s6 = jg_up s 120 0 x2 → ∀ s7 : jg_H, s7 = jg_up s6 120 1 (s 60 0) → ∀ s8 : jg_H, s8 = jg_up s7 120 3 0 → ∀ s9 : jg_H, s9 = jg_up s8 120 6 (s 122 0) → ∀ s10 : jg_H, s10 = jg_up s9 120 7 (s 122 1) → q_P G (d + 2) 75 [.ref 0, .int (s10 0 12), .int 2] s10 (fun v t => q_W G (d + 2) jm_C_vote B 142 [some (.ref 0), some (.int x1), some (.int x2), some (.int x3)] (v.toList ++ [.ref 122]) t))
    (k3 : ¬ x3 < 0 → x3 < (s 0 1) → ¬ x3 < 15 → ∀ s11 : jg_H, s11 = jg_up s 120 0 x2 → ∀ s12 : jg_H, s12 = jg_up s11 120 1 (s 60 0) → ∀ s13 : jg_H, s13 = jg_up s12 120 3 0 → ∀ s14 : jg_H, s14 = jg_up s13 120 6 (s 122 0) → ∀ s15 : jg_H, s15 = jg_up s14 120 7 (s 122 1) → q_P G (d + 2) 75 [.ref 0, .int (s15 0 12), .int 2] s15 (fun v t => q_W G (d + 2) jm_C_vote B 142 [some (.ref 0), some (.int x1), some (.int x2), some (.int x3)] (v.toList ++ [.ref 122]) t))
    (k4 : ¬ x3 < 0 → x3 < (s 0 1) → x3 < 15 → ∀ s16 : jg_H, s16 = jg_up s 120 0 x2 → ∀ s17 : jg_H, s17 = jg_up s16 120 1 (s 60 0) → ∀ s18 : jg_H, s18 = jg_up s17 120 3 (s (2 + 2 * x3.toNatClampNeg) 0) → ∀ s19 : jg_H, s19 = jg_up s18 120 6 (s 122 0) → ∀ s20 : jg_H, s20 = jg_up s19 120 7 (s 122 1) → q_P G (d + 2) 75 [.ref 0, .int (s20 0 12), .int 2] s20 (fun v t => q_W G (d + 2) jm_C_vote B 142 [some (.ref 0), some (.int x1), some (.int x2), some (.int x3)] (v.toList ++ [.ref 122]) t)) :
    q_W G (d + 2) jm_C_vote B 95 [some (.ref 0), some (.int x1), some (.int x2), some (.int x3)] [] s := by
  refine q_aload_n (pc' := 96) ja_C_vote_95 rfl rfl ?_
  refine q_getf (pc' := 99) (v := .ref 119) ja_C_vote_96 rfl (by decide) ⟨rfl, by decide⟩ rfl ?_
  refine q_iload_n (pc' := 100) ja_C_vote_99 rfl rfl ?_
  refine q_aload_n (pc' := 101) ja_C_vote_100 rfl rfl ?_
  refine q_iload_n (pc' := 102) ja_C_vote_101 rfl rfl ?_
  refine q_virt (pc' := 105) (c := 0) (as := [.int x3]) (r := [.int x2, .ref 119]) ja_C_vote_102 rfl rfl rfl (by decide) ⟨rfl, by decide⟩ ?_
  refine q_in (M := jm_C_partyOf) rfl (Nat.le_of_ble_eq_true rfl) (ls := [some (.ref 0), some (.int x3)]) rfl ?_
  refine q_aload_n (pc' := 1) ja_C_partyOf_0 rfl rfl ?_
  refine q_iload_n (pc' := 2) ja_C_partyOf_1 rfl rfl ?_
  refine q_virt (pc' := 5) (c := 0) (as := [.int x3]) (r := []) ja_C_partyOf_2 rfl rfl rfl (by decide) ⟨rfl, by decide⟩ ?_
  refine q_in (M := jm_C_isMember) rfl (Nat.le_of_ble_eq_true rfl) (ls := [some (.ref 0), some (.int x3)]) rfl ?_
  refine q_iload_n (pc' := 1) ja_C_isMember_0 rfl rfl ?_
  refine q_if_lt (pc' := 4) ja_C_isMember_1 rfl ?_ ?_
  · intro h1
    refine q_iconst (pc' := 26) ja_C_isMember_25 rfl 0 (by decide) ?_
    refine q_iret ja_C_isMember_26 rfl (by decide) ?_
    show q_W _ _ _ _ 5 [some (.ref 0), some (.int x3)] [.int 0] s
    refine q_if_eq (pc' := 8) ja_C_partyOf_5 rfl (fun _ => ?_) (fun h => absurd ((by decide : (0 : Int32) = 0)) h)
    refine q_iconst (pc' := 21) ja_C_partyOf_20 rfl 0 (by decide) ?_
    refine q_iret ja_C_partyOf_21 rfl rfl ?_
    show q_W _ _ _ _ 105 [some (.ref 0), some (.int x1), some (.int x2), some (.int x3)] [.int 0, .int x2, .ref 119] s
    refine q_aload_n (pc' := 106) ja_C_vote_105 rfl rfl ?_
    refine q_getf (pc' := 109) (v := .ref 60) ja_C_vote_106 rfl (by decide) ⟨rfl, by decide⟩ rfl ?_
    refine q_getf (pc' := 112) (v := .int (s 60 0)) ja_C_vote_109 rfl (by decide) ⟨rfl, by decide⟩ rfl ?_
    refine q_aload_n (pc' := 113) ja_C_vote_112 rfl rfl ?_
    refine q_getf (pc' := 116) (v := .ref 122) ja_C_vote_113 rfl (by decide) ⟨rfl, by decide⟩ rfl ?_
    refine q_getf (pc' := 119) (v := .int (s 122 0)) ja_C_vote_116 rfl (by decide) ⟨rfl, by decide⟩ rfl ?_
    refine q_aload_n (pc' := 120) ja_C_vote_119 rfl rfl ?_
    refine q_getf (pc' := 123) (v := .ref 122) ja_C_vote_120 rfl (by decide) ⟨rfl, by decide⟩ rfl ?_
    refine q_getf (pc' := 126) (v := .int (s 122 1)) ja_C_vote_123 rfl (by decide) ⟨rfl, by decide⟩ rfl ?_
    refine q_virt (pc' := 129) (c := 119) (as := [.int x2, .int 0, .int (s 60 0), .int (s 122 0), .int (s 122 1)]) (r := []) ja_C_vote_126 rfl rfl rfl (by decide) ⟨rfl, by decide⟩ ?_
    refine q_in (M := jm_Machine_sets) rfl (Nat.le_of_ble_eq_true rfl) (ls := [some (.ref 119), some (.int x2), some (.int 0), some (.int (s 60 0)), some (.int (s 122 0)), some (.int (s 122 1))]) rfl ?_
    refine q_aload_n (pc' := 1) ja_Machine_sets_0 rfl rfl ?_
    refine q_getf (pc' := 4) (v := .ref 120) ja_Machine_sets_1 rfl (by decide) ⟨rfl, by decide⟩ rfl ?_
    refine q_iconst (pc' := 5) ja_Machine_sets_4 rfl 0 (by decide) ?_
    refine q_iload_n (pc' := 6) ja_Machine_sets_5 rfl rfl ?_
    refine q_iast (pc' := 7) ja_Machine_sets_6 rfl (by decide) (l := 8) rfl (by decide) ?_
    intro s1 e1
    refine q_aload_n (pc' := 8) ja_Machine_sets_7 rfl rfl ?_
    refine q_getf (pc' := 11) (v := .ref 120) ja_Machine_sets_8 rfl (by decide) ⟨rfl, by decide⟩ rfl ?_
    refine q_iconst (pc' := 12) ja_Machine_sets_11 rfl 1 (by decide) ?_
    refine q_iload_n (pc' := 13) ja_Machine_sets_12 rfl rfl ?_
    refine q_iast (pc' := 14) ja_Machine_sets_13 rfl (by decide) (l := 8) rfl (by decide) ?_
    intro s2 e2
    refine q_aload_n (pc' := 15) ja_Machine_sets_14 rfl rfl ?_
    refine q_getf (pc' := 18) (v := .ref 120) ja_Machine_sets_15 rfl (by decide) ⟨rfl, by decide⟩ rfl ?_
    refine q_iconst (pc' := 19) ja_Machine_sets_18 rfl 3 (by decide) ?_
    refine q_iload_n (pc' := 20) ja_Machine_sets_19 rfl rfl ?_
    refine q_iast (pc' := 21) ja_Machine_sets_20 rfl (by decide) (l := 8) rfl (by decide) ?_
    intro s3 e3
    refine q_aload_n (pc' := 22) ja_Machine_sets_21 rfl rfl ?_
    refine q_getf (pc' := 25) (v := .ref 120) ja_Machine_sets_22 rfl (by decide) ⟨rfl, by decide⟩ rfl ?_
    refine q_bipush (pc' := 27) ja_Machine_sets_25 rfl 6 (by decide) ?_
    refine q_iload (pc' := 29) ja_Machine_sets_27 rfl rfl ?_
    refine q_iast (pc' := 30) ja_Machine_sets_29 rfl (by decide) (l := 8) rfl (by decide) ?_
    intro s4 e4
    refine q_aload_n (pc' := 31) ja_Machine_sets_30 rfl rfl ?_
    refine q_getf (pc' := 34) (v := .ref 120) ja_Machine_sets_31 rfl (by decide) ⟨rfl, by decide⟩ rfl ?_
    refine q_bipush (pc' := 36) ja_Machine_sets_34 rfl 7 (by decide) ?_
    refine q_iload (pc' := 38) ja_Machine_sets_36 rfl rfl ?_
    refine q_iast (pc' := 39) ja_Machine_sets_38 rfl (by decide) (l := 8) rfl (by decide) ?_
    intro s5 e5
    refine q_vret ja_Machine_sets_39 rfl ?_
    show q_W _ _ _ _ 129 [some (.ref 0), some (.int x1), some (.int x2), some (.int x3)] [] s5
    refine q_aload_n (pc' := 130) ja_C_vote_129 rfl rfl ?_
    refine q_getf (pc' := 133) (v := .ref 122) ja_C_vote_130 rfl (by decide) ⟨rfl, by decide⟩ rfl ?_
    refine q_aload_n (pc' := 134) ja_C_vote_133 rfl rfl ?_
    refine q_aload_n (pc' := 135) ja_C_vote_134 rfl rfl ?_
    refine q_getf (pc' := 138) (v := .int (s5 0 12)) ja_C_vote_135 rfl (by decide) ⟨rfl, by decide⟩ rfl ?_
    refine q_iconst (pc' := 139) ja_C_vote_138 rfl 2 (by decide) ?_
    refine q_virt (pc' := 142) (c := 0) (as := [.int (s5 0 12), .int 2]) (r := [.ref 122]) ja_C_vote_139 rfl rfl rfl (by decide) ⟨rfl, by decide⟩ ?_
    exact (k1 h1 s1 e1 s2 e2 s3 e3 s4 e4 s5 e5)
  · intro h2
    refine q_iload_n (pc' := 5) ja_C_isMember_4 rfl rfl ?_
    refine q_aload_n (pc' := 6) ja_C_isMember_5 rfl rfl ?_
    refine q_getf (pc' := 9) (v := .int (s 0 1)) ja_C_isMember_6 rfl (by decide) ⟨rfl, by decide⟩ rfl ?_
    refine q_ic_ge (pc' := 12) ja_C_isMember_9 rfl ?_ ?_
    · intro h3
      refine q_iconst (pc' := 26) ja_C_isMember_25 rfl 0 (by decide) ?_
      refine q_iret ja_C_isMember_26 rfl (by decide) ?_
      show q_W _ _ _ _ 5 [some (.ref 0), some (.int x3)] [.int 0] s
      refine q_if_eq (pc' := 8) ja_C_partyOf_5 rfl (fun _ => ?_) (fun h => absurd ((by decide : (0 : Int32) = 0)) h)
      refine q_iconst (pc' := 21) ja_C_partyOf_20 rfl 0 (by decide) ?_
      refine q_iret ja_C_partyOf_21 rfl rfl ?_
      show q_W _ _ _ _ 105 [some (.ref 0), some (.int x1), some (.int x2), some (.int x3)] [.int 0, .int x2, .ref 119] s
      refine q_aload_n (pc' := 106) ja_C_vote_105 rfl rfl ?_
      refine q_getf (pc' := 109) (v := .ref 60) ja_C_vote_106 rfl (by decide) ⟨rfl, by decide⟩ rfl ?_
      refine q_getf (pc' := 112) (v := .int (s 60 0)) ja_C_vote_109 rfl (by decide) ⟨rfl, by decide⟩ rfl ?_
      refine q_aload_n (pc' := 113) ja_C_vote_112 rfl rfl ?_
      refine q_getf (pc' := 116) (v := .ref 122) ja_C_vote_113 rfl (by decide) ⟨rfl, by decide⟩ rfl ?_
      refine q_getf (pc' := 119) (v := .int (s 122 0)) ja_C_vote_116 rfl (by decide) ⟨rfl, by decide⟩ rfl ?_
      refine q_aload_n (pc' := 120) ja_C_vote_119 rfl rfl ?_
      refine q_getf (pc' := 123) (v := .ref 122) ja_C_vote_120 rfl (by decide) ⟨rfl, by decide⟩ rfl ?_
      refine q_getf (pc' := 126) (v := .int (s 122 1)) ja_C_vote_123 rfl (by decide) ⟨rfl, by decide⟩ rfl ?_
      refine q_virt (pc' := 129) (c := 119) (as := [.int x2, .int 0, .int (s 60 0), .int (s 122 0), .int (s 122 1)]) (r := []) ja_C_vote_126 rfl rfl rfl (by decide) ⟨rfl, by decide⟩ ?_
      refine q_in (M := jm_Machine_sets) rfl (Nat.le_of_ble_eq_true rfl) (ls := [some (.ref 119), some (.int x2), some (.int 0), some (.int (s 60 0)), some (.int (s 122 0)), some (.int (s 122 1))]) rfl ?_
      refine q_aload_n (pc' := 1) ja_Machine_sets_0 rfl rfl ?_
      refine q_getf (pc' := 4) (v := .ref 120) ja_Machine_sets_1 rfl (by decide) ⟨rfl, by decide⟩ rfl ?_
      refine q_iconst (pc' := 5) ja_Machine_sets_4 rfl 0 (by decide) ?_
      refine q_iload_n (pc' := 6) ja_Machine_sets_5 rfl rfl ?_
      refine q_iast (pc' := 7) ja_Machine_sets_6 rfl (by decide) (l := 8) rfl (by decide) ?_
      intro s6 e6
      refine q_aload_n (pc' := 8) ja_Machine_sets_7 rfl rfl ?_
      refine q_getf (pc' := 11) (v := .ref 120) ja_Machine_sets_8 rfl (by decide) ⟨rfl, by decide⟩ rfl ?_
      refine q_iconst (pc' := 12) ja_Machine_sets_11 rfl 1 (by decide) ?_
      refine q_iload_n (pc' := 13) ja_Machine_sets_12 rfl rfl ?_
      refine q_iast (pc' := 14) ja_Machine_sets_13 rfl (by decide) (l := 8) rfl (by decide) ?_
      intro s7 e7
      refine q_aload_n (pc' := 15) ja_Machine_sets_14 rfl rfl ?_
      refine q_getf (pc' := 18) (v := .ref 120) ja_Machine_sets_15 rfl (by decide) ⟨rfl, by decide⟩ rfl ?_
      refine q_iconst (pc' := 19) ja_Machine_sets_18 rfl 3 (by decide) ?_
      refine q_iload_n (pc' := 20) ja_Machine_sets_19 rfl rfl ?_
      refine q_iast (pc' := 21) ja_Machine_sets_20 rfl (by decide) (l := 8) rfl (by decide) ?_
      intro s8 e8
      refine q_aload_n (pc' := 22) ja_Machine_sets_21 rfl rfl ?_
      refine q_getf (pc' := 25) (v := .ref 120) ja_Machine_sets_22 rfl (by decide) ⟨rfl, by decide⟩ rfl ?_
      refine q_bipush (pc' := 27) ja_Machine_sets_25 rfl 6 (by decide) ?_
      refine q_iload (pc' := 29) ja_Machine_sets_27 rfl rfl ?_
      refine q_iast (pc' := 30) ja_Machine_sets_29 rfl (by decide) (l := 8) rfl (by decide) ?_
      intro s9 e9
      refine q_aload_n (pc' := 31) ja_Machine_sets_30 rfl rfl ?_
      refine q_getf (pc' := 34) (v := .ref 120) ja_Machine_sets_31 rfl (by decide) ⟨rfl, by decide⟩ rfl ?_
      refine q_bipush (pc' := 36) ja_Machine_sets_34 rfl 7 (by decide) ?_
      refine q_iload (pc' := 38) ja_Machine_sets_36 rfl rfl ?_
      refine q_iast (pc' := 39) ja_Machine_sets_38 rfl (by decide) (l := 8) rfl (by decide) ?_
      intro s10 e10
      refine q_vret ja_Machine_sets_39 rfl ?_
      show q_W _ _ _ _ 129 [some (.ref 0), some (.int x1), some (.int x2), some (.int x3)] [] s10
      refine q_aload_n (pc' := 130) ja_C_vote_129 rfl rfl ?_
      refine q_getf (pc' := 133) (v := .ref 122) ja_C_vote_130 rfl (by decide) ⟨rfl, by decide⟩ rfl ?_
      refine q_aload_n (pc' := 134) ja_C_vote_133 rfl rfl ?_
      refine q_aload_n (pc' := 135) ja_C_vote_134 rfl rfl ?_
      refine q_getf (pc' := 138) (v := .int (s10 0 12)) ja_C_vote_135 rfl (by decide) ⟨rfl, by decide⟩ rfl ?_
      refine q_iconst (pc' := 139) ja_C_vote_138 rfl 2 (by decide) ?_
      refine q_virt (pc' := 142) (c := 0) (as := [.int (s10 0 12), .int 2]) (r := [.ref 122]) ja_C_vote_139 rfl rfl rfl (by decide) ⟨rfl, by decide⟩ ?_
      exact (k2 h2 h3 s6 e6 s7 e7 s8 e8 s9 e9 s10 e10)
    · intro h4
      refine q_iload_n (pc' := 13) ja_C_isMember_12 rfl rfl ?_
      refine q_aload_n (pc' := 14) ja_C_isMember_13 rfl rfl ?_
      refine q_getf (pc' := 17) (v := .ref 1) ja_C_isMember_14 rfl (by decide) ⟨rfl, by decide⟩ rfl ?_
      refine q_alen (pc' := 18) ja_C_isMember_17 rfl (by decide) (kd := 16) (l := 15) rfl (by decide) (v := 15) (by decide) ?_
      refine q_ic_ge (pc' := 21) ja_C_isMember_18 rfl ?_ ?_
      · intro h5
        refine q_iconst (pc' := 26) ja_C_isMember_25 rfl 0 (by decide) ?_
        refine q_iret ja_C_isMember_26 rfl (by decide) ?_
        show q_W _ _ _ _ 5 [some (.ref 0), some (.int x3)] [.int 0] s
        refine q_if_eq (pc' := 8) ja_C_partyOf_5 rfl (fun _ => ?_) (fun h => absurd ((by decide : (0 : Int32) = 0)) h)
        refine q_iconst (pc' := 21) ja_C_partyOf_20 rfl 0 (by decide) ?_
        refine q_iret ja_C_partyOf_21 rfl rfl ?_
        show q_W _ _ _ _ 105 [some (.ref 0), some (.int x1), some (.int x2), some (.int x3)] [.int 0, .int x2, .ref 119] s
        refine q_aload_n (pc' := 106) ja_C_vote_105 rfl rfl ?_
        refine q_getf (pc' := 109) (v := .ref 60) ja_C_vote_106 rfl (by decide) ⟨rfl, by decide⟩ rfl ?_
        refine q_getf (pc' := 112) (v := .int (s 60 0)) ja_C_vote_109 rfl (by decide) ⟨rfl, by decide⟩ rfl ?_
        refine q_aload_n (pc' := 113) ja_C_vote_112 rfl rfl ?_
        refine q_getf (pc' := 116) (v := .ref 122) ja_C_vote_113 rfl (by decide) ⟨rfl, by decide⟩ rfl ?_
        refine q_getf (pc' := 119) (v := .int (s 122 0)) ja_C_vote_116 rfl (by decide) ⟨rfl, by decide⟩ rfl ?_
        refine q_aload_n (pc' := 120) ja_C_vote_119 rfl rfl ?_
        refine q_getf (pc' := 123) (v := .ref 122) ja_C_vote_120 rfl (by decide) ⟨rfl, by decide⟩ rfl ?_
        refine q_getf (pc' := 126) (v := .int (s 122 1)) ja_C_vote_123 rfl (by decide) ⟨rfl, by decide⟩ rfl ?_
        refine q_virt (pc' := 129) (c := 119) (as := [.int x2, .int 0, .int (s 60 0), .int (s 122 0), .int (s 122 1)]) (r := []) ja_C_vote_126 rfl rfl rfl (by decide) ⟨rfl, by decide⟩ ?_
        refine q_in (M := jm_Machine_sets) rfl (Nat.le_of_ble_eq_true rfl) (ls := [some (.ref 119), some (.int x2), some (.int 0), some (.int (s 60 0)), some (.int (s 122 0)), some (.int (s 122 1))]) rfl ?_
        refine q_aload_n (pc' := 1) ja_Machine_sets_0 rfl rfl ?_
        refine q_getf (pc' := 4) (v := .ref 120) ja_Machine_sets_1 rfl (by decide) ⟨rfl, by decide⟩ rfl ?_
        refine q_iconst (pc' := 5) ja_Machine_sets_4 rfl 0 (by decide) ?_
        refine q_iload_n (pc' := 6) ja_Machine_sets_5 rfl rfl ?_
        refine q_iast (pc' := 7) ja_Machine_sets_6 rfl (by decide) (l := 8) rfl (by decide) ?_
        intro s11 e11
        refine q_aload_n (pc' := 8) ja_Machine_sets_7 rfl rfl ?_
        refine q_getf (pc' := 11) (v := .ref 120) ja_Machine_sets_8 rfl (by decide) ⟨rfl, by decide⟩ rfl ?_
        refine q_iconst (pc' := 12) ja_Machine_sets_11 rfl 1 (by decide) ?_
        refine q_iload_n (pc' := 13) ja_Machine_sets_12 rfl rfl ?_
        refine q_iast (pc' := 14) ja_Machine_sets_13 rfl (by decide) (l := 8) rfl (by decide) ?_
        intro s12 e12
        refine q_aload_n (pc' := 15) ja_Machine_sets_14 rfl rfl ?_
        refine q_getf (pc' := 18) (v := .ref 120) ja_Machine_sets_15 rfl (by decide) ⟨rfl, by decide⟩ rfl ?_
        refine q_iconst (pc' := 19) ja_Machine_sets_18 rfl 3 (by decide) ?_
        refine q_iload_n (pc' := 20) ja_Machine_sets_19 rfl rfl ?_
        refine q_iast (pc' := 21) ja_Machine_sets_20 rfl (by decide) (l := 8) rfl (by decide) ?_
        intro s13 e13
        refine q_aload_n (pc' := 22) ja_Machine_sets_21 rfl rfl ?_
        refine q_getf (pc' := 25) (v := .ref 120) ja_Machine_sets_22 rfl (by decide) ⟨rfl, by decide⟩ rfl ?_
        refine q_bipush (pc' := 27) ja_Machine_sets_25 rfl 6 (by decide) ?_
        refine q_iload (pc' := 29) ja_Machine_sets_27 rfl rfl ?_
        refine q_iast (pc' := 30) ja_Machine_sets_29 rfl (by decide) (l := 8) rfl (by decide) ?_
        intro s14 e14
        refine q_aload_n (pc' := 31) ja_Machine_sets_30 rfl rfl ?_
        refine q_getf (pc' := 34) (v := .ref 120) ja_Machine_sets_31 rfl (by decide) ⟨rfl, by decide⟩ rfl ?_
        refine q_bipush (pc' := 36) ja_Machine_sets_34 rfl 7 (by decide) ?_
        refine q_iload (pc' := 38) ja_Machine_sets_36 rfl rfl ?_
        refine q_iast (pc' := 39) ja_Machine_sets_38 rfl (by decide) (l := 8) rfl (by decide) ?_
        intro s15 e15
        refine q_vret ja_Machine_sets_39 rfl ?_
        show q_W _ _ _ _ 129 [some (.ref 0), some (.int x1), some (.int x2), some (.int x3)] [] s15
        refine q_aload_n (pc' := 130) ja_C_vote_129 rfl rfl ?_
        refine q_getf (pc' := 133) (v := .ref 122) ja_C_vote_130 rfl (by decide) ⟨rfl, by decide⟩ rfl ?_
        refine q_aload_n (pc' := 134) ja_C_vote_133 rfl rfl ?_
        refine q_aload_n (pc' := 135) ja_C_vote_134 rfl rfl ?_
        refine q_getf (pc' := 138) (v := .int (s15 0 12)) ja_C_vote_135 rfl (by decide) ⟨rfl, by decide⟩ rfl ?_
        refine q_iconst (pc' := 139) ja_C_vote_138 rfl 2 (by decide) ?_
        refine q_virt (pc' := 142) (c := 0) (as := [.int (s15 0 12), .int 2]) (r := [.ref 122]) ja_C_vote_139 rfl rfl rfl (by decide) ⟨rfl, by decide⟩ ?_
        exact (k3 h2 h4 h5 s11 e11 s12 e12 s13 e13 s14 e14 s15 e15)
      · intro h6
        refine q_iconst (pc' := 22) ja_C_isMember_21 rfl 1 (by decide) ?_
        refine q_goto ja_C_isMember_22 ?_
        refine q_iret ja_C_isMember_26 rfl (by decide) ?_
        show q_W _ _ _ _ 5 [some (.ref 0), some (.int x3)] [.int 1] s
        refine q_if_eq (pc' := 8) ja_C_partyOf_5 rfl (fun h => absurd h ((by decide : ¬ (1 : Int32) = 0))) (fun _ => ?_)
        refine q_aload_n (pc' := 9) ja_C_partyOf_8 rfl rfl ?_
        refine q_getf (pc' := 12) (v := .ref 1) ja_C_partyOf_9 rfl (by decide) ⟨rfl, by decide⟩ rfl ?_
        refine q_iload_n (pc' := 13) ja_C_partyOf_12 rfl rfl ?_
        refine q_aald (pc' := 14) (v := .ref (2 + 2 * x3.toNatClampNeg)) ja_C_partyOf_13 rfl (by decide) (kd := 16) (l := 15) rfl (by decide) (q_inr (l := 15) (by decide) h2 h6) (f_A1 (f_in (q_inr (l := 15) (by decide) h2 h6))) ?_
        refine q_getf (pc' := 17) (v := .int (s (2 + 2 * x3.toNatClampNeg) 0)) ja_C_partyOf_14 rfl (f_5_c (f_m1 (f_in (q_inr (l := 15) (by decide) h2 h6)))) ⟨by rw [f_5_k (f_m1 (f_in (q_inr (l := 15) (by decide) h2 h6)))], by decide⟩ (f_i (f_5_k (f_m1 (f_in (q_inr (l := 15) (by decide) h2 h6)))) rfl) ?_
        refine q_goto ja_C_partyOf_17 ?_
        refine q_iret ja_C_partyOf_21 rfl rfl ?_
        show q_W _ _ _ _ 105 [some (.ref 0), some (.int x1), some (.int x2), some (.int x3)] [.int (s (2 + 2 * x3.toNatClampNeg) 0), .int x2, .ref 119] s
        refine q_aload_n (pc' := 106) ja_C_vote_105 rfl rfl ?_
        refine q_getf (pc' := 109) (v := .ref 60) ja_C_vote_106 rfl (by decide) ⟨rfl, by decide⟩ rfl ?_
        refine q_getf (pc' := 112) (v := .int (s 60 0)) ja_C_vote_109 rfl (by decide) ⟨rfl, by decide⟩ rfl ?_
        refine q_aload_n (pc' := 113) ja_C_vote_112 rfl rfl ?_
        refine q_getf (pc' := 116) (v := .ref 122) ja_C_vote_113 rfl (by decide) ⟨rfl, by decide⟩ rfl ?_
        refine q_getf (pc' := 119) (v := .int (s 122 0)) ja_C_vote_116 rfl (by decide) ⟨rfl, by decide⟩ rfl ?_
        refine q_aload_n (pc' := 120) ja_C_vote_119 rfl rfl ?_
        refine q_getf (pc' := 123) (v := .ref 122) ja_C_vote_120 rfl (by decide) ⟨rfl, by decide⟩ rfl ?_
        refine q_getf (pc' := 126) (v := .int (s 122 1)) ja_C_vote_123 rfl (by decide) ⟨rfl, by decide⟩ rfl ?_
        refine q_virt (pc' := 129) (c := 119) (as := [.int x2, .int (s (2 + 2 * x3.toNatClampNeg) 0), .int (s 60 0), .int (s 122 0), .int (s 122 1)]) (r := []) ja_C_vote_126 rfl rfl rfl (by decide) ⟨rfl, by decide⟩ ?_
        refine q_in (M := jm_Machine_sets) rfl (Nat.le_of_ble_eq_true rfl) (ls := [some (.ref 119), some (.int x2), some (.int (s (2 + 2 * x3.toNatClampNeg) 0)), some (.int (s 60 0)), some (.int (s 122 0)), some (.int (s 122 1))]) rfl ?_
        refine q_aload_n (pc' := 1) ja_Machine_sets_0 rfl rfl ?_
        refine q_getf (pc' := 4) (v := .ref 120) ja_Machine_sets_1 rfl (by decide) ⟨rfl, by decide⟩ rfl ?_
        refine q_iconst (pc' := 5) ja_Machine_sets_4 rfl 0 (by decide) ?_
        refine q_iload_n (pc' := 6) ja_Machine_sets_5 rfl rfl ?_
        refine q_iast (pc' := 7) ja_Machine_sets_6 rfl (by decide) (l := 8) rfl (by decide) ?_
        intro s16 e16
        refine q_aload_n (pc' := 8) ja_Machine_sets_7 rfl rfl ?_
        refine q_getf (pc' := 11) (v := .ref 120) ja_Machine_sets_8 rfl (by decide) ⟨rfl, by decide⟩ rfl ?_
        refine q_iconst (pc' := 12) ja_Machine_sets_11 rfl 1 (by decide) ?_
        refine q_iload_n (pc' := 13) ja_Machine_sets_12 rfl rfl ?_
        refine q_iast (pc' := 14) ja_Machine_sets_13 rfl (by decide) (l := 8) rfl (by decide) ?_
        intro s17 e17
        refine q_aload_n (pc' := 15) ja_Machine_sets_14 rfl rfl ?_
        refine q_getf (pc' := 18) (v := .ref 120) ja_Machine_sets_15 rfl (by decide) ⟨rfl, by decide⟩ rfl ?_
        refine q_iconst (pc' := 19) ja_Machine_sets_18 rfl 3 (by decide) ?_
        refine q_iload_n (pc' := 20) ja_Machine_sets_19 rfl rfl ?_
        refine q_iast (pc' := 21) ja_Machine_sets_20 rfl (by decide) (l := 8) rfl (by decide) ?_
        intro s18 e18
        refine q_aload_n (pc' := 22) ja_Machine_sets_21 rfl rfl ?_
        refine q_getf (pc' := 25) (v := .ref 120) ja_Machine_sets_22 rfl (by decide) ⟨rfl, by decide⟩ rfl ?_
        refine q_bipush (pc' := 27) ja_Machine_sets_25 rfl 6 (by decide) ?_
        refine q_iload (pc' := 29) ja_Machine_sets_27 rfl rfl ?_
        refine q_iast (pc' := 30) ja_Machine_sets_29 rfl (by decide) (l := 8) rfl (by decide) ?_
        intro s19 e19
        refine q_aload_n (pc' := 31) ja_Machine_sets_30 rfl rfl ?_
        refine q_getf (pc' := 34) (v := .ref 120) ja_Machine_sets_31 rfl (by decide) ⟨rfl, by decide⟩ rfl ?_
        refine q_bipush (pc' := 36) ja_Machine_sets_34 rfl 7 (by decide) ?_
        refine q_iload (pc' := 38) ja_Machine_sets_36 rfl rfl ?_
        refine q_iast (pc' := 39) ja_Machine_sets_38 rfl (by decide) (l := 8) rfl (by decide) ?_
        intro s20 e20
        refine q_vret ja_Machine_sets_39 rfl ?_
        show q_W _ _ _ _ 129 [some (.ref 0), some (.int x1), some (.int x2), some (.int x3)] [] s20
        refine q_aload_n (pc' := 130) ja_C_vote_129 rfl rfl ?_
        refine q_getf (pc' := 133) (v := .ref 122) ja_C_vote_130 rfl (by decide) ⟨rfl, by decide⟩ rfl ?_
        refine q_aload_n (pc' := 134) ja_C_vote_133 rfl rfl ?_
        refine q_aload_n (pc' := 135) ja_C_vote_134 rfl rfl ?_
        refine q_getf (pc' := 138) (v := .int (s20 0 12)) ja_C_vote_135 rfl (by decide) ⟨rfl, by decide⟩ rfl ?_
        refine q_iconst (pc' := 139) ja_C_vote_138 rfl 2 (by decide) ?_
        refine q_virt (pc' := 142) (c := 0) (as := [.int (s20 0 12), .int 2]) (r := [.ref 122]) ja_C_vote_139 rfl rfl rfl (by decide) ⟨rfl, by decide⟩ ?_
        exact (k4 h2 h4 h6 s16 e16 s17 e17 s18 e18 s19 e19 s20 e20)
set_option maxRecDepth 20000 in
theorem t_C_vote_142 {G : jv_X} {d : Nat} {B : Option Value → jg_H → Prop} {s : jg_H} (x1 : Int32) (x2 : Int32) (x3 : Int32) (y1 : Int32)
    (k1 : y1 = 0 → ∀ s1 : jg_H, s1 = jg_up s 122 3 0 → ∀ s2 : jg_H, s2 = jg_up s1 60 0 ((s1 60 0) - 1) → (s2 122 3) = 0 → ¬ x2 = 0 → ∀ s3 : jg_H, s3 = jg_up s2 0 19 ((s2 0 19) + 1) → (s3 122 3) = 0 → B (some (.int 0)) s3)
    (k2 : y1 = 0 → ∀ s1 : jg_H, s1 = jg_up s 122 3 0 → ∀ s2 : jg_H, s2 = jg_up s1 60 0 ((s1 60 0) - 1) → (s2 122 3) = 0 → ¬ x2 = 0 → ∀ s3 : jg_H, s3 = jg_up s2 0 19 ((s2 0 19) + 1) → ¬ (s3 122 3) = 0 → B (some (.int 1)) s3)
    (k3 : y1 = 0 → ∀ s1 : jg_H, s1 = jg_up s 122 3 0 → ∀ s2 : jg_H, s2 = jg_up s1 60 0 ((s1 60 0) - 1) → (s2 122 3) = 0 → x2 = 0 → (s2 0 6) < 0 → ∀ s4 : jg_H, s4 = jg_up s2 0 19 ((s2 0 19) + 1) → (s4 122 3) = 0 → B (some (.int 0)) s4)
    (k4 : y1 = 0 → ∀ s1 : jg_H, s1 = jg_up s 122 3 0 → ∀ s2 : jg_H, s2 = jg_up s1 60 0 ((s1 60 0) - 1) → (s2 122 3) = 0 → x2 = 0 → (s2 0 6) < 0 → ∀ s4 : jg_H, s4 = jg_up s2 0 19 ((s2 0 19) + 1) → ¬ (s4 122 3) = 0 → B (some (.int 1)) s4)
    (k5 : y1 = 0 → ∀ s1 : jg_H, s1 = jg_up s 122 3 0 → ∀ s2 : jg_H, s2 = jg_up s1 60 0 ((s1 60 0) - 1) → (s2 122 3) = 0 → x2 = 0 → ¬ (s2 0 6) < 0 → ¬ (s2 0 6) < (s2 0 3) → ∀ s5 : jg_H, s5 = jg_up s2 0 19 ((s2 0 19) + 1) → (s5 122 3) = 0 → B (some (.int 0)) s5)
    (k6 : y1 = 0 → ∀ s1 : jg_H, s1 = jg_up s 122 3 0 → ∀ s2 : jg_H, s2 = jg_up s1 60 0 ((s1 60 0) - 1) → (s2 122 3) = 0 → x2 = 0 → ¬ (s2 0 6) < 0 → ¬ (s2 0 6) < (s2 0 3) → ∀ s5 : jg_H, s5 = jg_up s2 0 19 ((s2 0 19) + 1) → ¬ (s5 122 3) = 0 → B (some (.int 1)) s5)
    (k7 : y1 = 0 → ∀ s1 : jg_H, s1 = jg_up s 122 3 0 → ∀ s2 : jg_H, s2 = jg_up s1 60 0 ((s1 60 0) - 1) → (s2 122 3) = 0 → x2 = 0 → ¬ (s2 0 6) < 0 → (s2 0 6) < (s2 0 3) → ¬ (s2 0 6) < 8 → ∀ s6 : jg_H, s6 = jg_up s2 0 19 ((s2 0 19) + 1) → (s6 122 3) = 0 → B (some (.int 0)) s6)
    (k8 : y1 = 0 → ∀ s1 : jg_H, s1 = jg_up s 122 3 0 → ∀ s2 : jg_H, s2 = jg_up s1 60 0 ((s1 60 0) - 1) → (s2 122 3) = 0 → x2 = 0 → ¬ (s2 0 6) < 0 → (s2 0 6) < (s2 0 3) → ¬ (s2 0 6) < 8 → ∀ s6 : jg_H, s6 = jg_up s2 0 19 ((s2 0 19) + 1) → ¬ (s6 122 3) = 0 → B (some (.int 1)) s6)
    (k9 : y1 = 0 → ∀ s1 : jg_H, s1 = jg_up s 122 3 0 → ∀ s2 : jg_H, s2 = jg_up s1 60 0 ((s1 60 0) - 1) → (s2 122 3) = 0 → x2 = 0 → ¬ (s2 0 6) < 0 → (s2 0 6) < (s2 0 3) → (s2 0 6) < 8 → ∀ s7 : jg_H, s7 = jg_up s2 (33 + 3 * (s2 0 6).toNatClampNeg) 0 4 → ∀ s8 : jg_H, s8 = jg_up s7 0 6 (-1) → ∀ s9 : jg_H, s9 = jg_up s8 60 0 0 → ∀ s10 : jg_H, s10 = jg_up s9 66 0 0 → ∀ s11 : jg_H, s11 = jg_up s10 0 19 ((s10 0 19) + 1) → (s11 122 3) = 0 → B (some (.int 0)) s11)
    (k10 : y1 = 0 → ∀ s1 : jg_H, s1 = jg_up s 122 3 0 → ∀ s2 : jg_H, s2 = jg_up s1 60 0 ((s1 60 0) - 1) → (s2 122 3) = 0 → x2 = 0 → ¬ (s2 0 6) < 0 → (s2 0 6) < (s2 0 3) → (s2 0 6) < 8 → ∀ s7 : jg_H, s7 = jg_up s2 (33 + 3 * (s2 0 6).toNatClampNeg) 0 4 → ∀ s8 : jg_H, s8 = jg_up s7 0 6 (-1) → ∀ s9 : jg_H, s9 = jg_up s8 60 0 0 → ∀ s10 : jg_H, s10 = jg_up s9 66 0 0 → ∀ s11 : jg_H, s11 = jg_up s10 0 19 ((s10 0 19) + 1) → ¬ (s11 122 3) = 0 → B (some (.int 1)) s11)
    (k11 : y1 = 0 → ∀ s1 : jg_H, s1 = jg_up s 122 3 0 → ∀ s2 : jg_H, s2 = jg_up s1 60 0 ((s1 60 0) - 1) → ¬ (s2 122 3) = 0 → jv_in x1 8 = true)
    (k12 : y1 = 0 → ∀ s1 : jg_H, s1 = jg_up s 122 3 0 → ∀ s2 : jg_H, s2 = jg_up s1 60 0 ((s1 60 0) - 1) → ¬ (s2 122 3) = 0 → jv_in x1 8 = true)
    (k13 : y1 = 0 → ∀ s1 : jg_H, s1 = jg_up s 122 3 0 → ∀ s2 : jg_H, s2 = jg_up s1 60 0 ((s1 60 0) - 1) → ¬ (s2 122 3) = 0 → q_P G (d + 2) 97 [.ref 0, .int x2, .int (s2 63 x1.toNatClampNeg), .int (s2 64 x1.toNatClampNeg)] s2 (fun v t => q_W G (d + 2) jm_C_vote B 199 [some (.ref 0), some (.int x1), some (.int x2), some (.int x3)] (v.toList ++ []) t))
    (k14 : ¬ y1 = 0 → ∀ s12 : jg_H, s12 = jg_up s 122 3 1 → ∀ s13 : jg_H, s13 = jg_up s12 60 0 ((s12 60 0) - 1) → (s13 122 3) = 0 → ¬ x2 = 0 → ∀ s14 : jg_H, s14 = jg_up s13 0 19 ((s13 0 19) + 1) → (s14 122 3) = 0 → B (some (.int 0)) s14)
    (k15 : ¬ y1 = 0 → ∀ s12 : jg_H, s12 = jg_up s 122 3 1 → ∀ s13 : jg_H, s13 = jg_up s12 60 0 ((s12 60 0) - 1) → (s13 122 3) = 0 → ¬ x2 = 0 → ∀ s14 : jg_H, s14 = jg_up s13 0 19 ((s13 0 19) + 1) → ¬ (s14 122 3) = 0 → B (some (.int 1)) s14)
    (k16 : ¬ y1 = 0 → ∀ s12 : jg_H, s12 = jg_up s 122 3 1 → ∀ s13 : jg_H, s13 = jg_up s12 60 0 ((s12 60 0) - 1) → (s13 122 3) = 0 → x2 = 0 → (s13 0 6) < 0 → ∀ s15 : jg_H, s15 = jg_up s13 0 19 ((s13 0 19) + 1) → (s15 122 3) = 0 → B (some (.int 0)) s15)
    (k17 : ¬ y1 = 0 → ∀ s12 : jg_H, s12 = jg_up s 122 3 1 → ∀ s13 : jg_H, s13 = jg_up s12 60 0 ((s12 60 0) - 1) → (s13 122 3) = 0 → x2 = 0 → (s13 0 6) < 0 → ∀ s15 : jg_H, s15 = jg_up s13 0 19 ((s13 0 19) + 1) → ¬ (s15 122 3) = 0 → B (some (.int 1)) s15)
    (k18 : ¬ y1 = 0 → ∀ s12 : jg_H, s12 = jg_up s 122 3 1 → ∀ s13 : jg_H, s13 = jg_up s12 60 0 ((s12 60 0) - 1) → (s13 122 3) = 0 → x2 = 0 → ¬ (s13 0 6) < 0 → ¬ (s13 0 6) < (s13 0 3) → ∀ s16 : jg_H, s16 = jg_up s13 0 19 ((s13 0 19) + 1) → (s16 122 3) = 0 → B (some (.int 0)) s16)
    (k19 : ¬ y1 = 0 → ∀ s12 : jg_H, s12 = jg_up s 122 3 1 → ∀ s13 : jg_H, s13 = jg_up s12 60 0 ((s12 60 0) - 1) → (s13 122 3) = 0 → x2 = 0 → ¬ (s13 0 6) < 0 → ¬ (s13 0 6) < (s13 0 3) → ∀ s16 : jg_H, s16 = jg_up s13 0 19 ((s13 0 19) + 1) → ¬ (s16 122 3) = 0 → B (some (.int 1)) s16)
    (k20 : ¬ y1 = 0 → ∀ s12 : jg_H, s12 = jg_up s 122 3 1 → ∀ s13 : jg_H, s13 = jg_up s12 60 0 ((s12 60 0) - 1) → (s13 122 3) = 0 → x2 = 0 → ¬ (s13 0 6) < 0 → (s13 0 6) < (s13 0 3) → ¬ (s13 0 6) < 8 → ∀ s17 : jg_H, s17 = jg_up s13 0 19 ((s13 0 19) + 1) → (s17 122 3) = 0 → B (some (.int 0)) s17)
    (k21 : ¬ y1 = 0 → ∀ s12 : jg_H, s12 = jg_up s 122 3 1 → ∀ s13 : jg_H, s13 = jg_up s12 60 0 ((s12 60 0) - 1) → (s13 122 3) = 0 → x2 = 0 → ¬ (s13 0 6) < 0 → (s13 0 6) < (s13 0 3) → ¬ (s13 0 6) < 8 → ∀ s17 : jg_H, s17 = jg_up s13 0 19 ((s13 0 19) + 1) → ¬ (s17 122 3) = 0 → B (some (.int 1)) s17)
    (k22 : ¬ y1 = 0 → ∀ s12 : jg_H, s12 = jg_up s 122 3 1 → ∀ s13 : jg_H, s13 = jg_up s12 60 0 ((s12 60 0) - 1) → (s13 122 3) = 0 → x2 = 0 → ¬ (s13 0 6) < 0 → (s13 0 6) < (s13 0 3) → (s13 0 6) < 8 → ∀ s18 : jg_H, s18 = jg_up s13 (33 + 3 * (s13 0 6).toNatClampNeg) 0 4 → ∀ s19 : jg_H, s19 = jg_up s18 0 6 (-1) → ∀ s20 : jg_H, s20 = jg_up s19 60 0 0 → ∀ s21 : jg_H, s21 = jg_up s20 66 0 0 → ∀ s22 : jg_H, s22 = jg_up s21 0 19 ((s21 0 19) + 1) → (s22 122 3) = 0 → B (some (.int 0)) s22)
    (k23 : ¬ y1 = 0 → ∀ s12 : jg_H, s12 = jg_up s 122 3 1 → ∀ s13 : jg_H, s13 = jg_up s12 60 0 ((s12 60 0) - 1) → (s13 122 3) = 0 → x2 = 0 → ¬ (s13 0 6) < 0 → (s13 0 6) < (s13 0 3) → (s13 0 6) < 8 → ∀ s18 : jg_H, s18 = jg_up s13 (33 + 3 * (s13 0 6).toNatClampNeg) 0 4 → ∀ s19 : jg_H, s19 = jg_up s18 0 6 (-1) → ∀ s20 : jg_H, s20 = jg_up s19 60 0 0 → ∀ s21 : jg_H, s21 = jg_up s20 66 0 0 → ∀ s22 : jg_H, s22 = jg_up s21 0 19 ((s21 0 19) + 1) → ¬ (s22 122 3) = 0 → B (some (.int 1)) s22)
    (k24 : ¬ y1 = 0 → ∀ s12 : jg_H, s12 = jg_up s 122 3 1 → ∀ s13 : jg_H, s13 = jg_up s12 60 0 ((s12 60 0) - 1) → ¬ (s13 122 3) = 0 → jv_in x1 8 = true)
    (k25 : ¬ y1 = 0 → ∀ s12 : jg_H, s12 = jg_up s 122 3 1 → ∀ s13 : jg_H, s13 = jg_up s12 60 0 ((s12 60 0) - 1) → ¬ (s13 122 3) = 0 → jv_in x1 8 = true)
    (k26 : ¬ y1 = 0 → ∀ s12 : jg_H, s12 = jg_up s 122 3 1 → ∀ s13 : jg_H, s13 = jg_up s12 60 0 ((s12 60 0) - 1) → ¬ (s13 122 3) = 0 → q_P G (d + 2) 97 [.ref 0, .int x2, .int (s13 63 x1.toNatClampNeg), .int (s13 64 x1.toNatClampNeg)] s13 (fun v t => q_W G (d + 2) jm_C_vote B 199 [some (.ref 0), some (.int x1), some (.int x2), some (.int x3)] (v.toList ++ []) t)) :
    q_W G (d + 2) jm_C_vote B 142 [some (.ref 0), some (.int x1), some (.int x2), some (.int x3)] [.int y1, .ref 122] s := by
  refine q_if_eq (pc' := 145) ja_C_vote_142 rfl ?_ ?_
  · intro h1
    refine q_iconst (pc' := 150) ja_C_vote_149 rfl 0 (by decide) ?_
    refine q_putf (pc' := 153) ja_C_vote_150 rfl (by decide) rfl (by decide) rfl ?_
    intro s1 e1
    refine q_aload_n (pc' := 154) ja_C_vote_153 rfl rfl ?_
    refine q_getf (pc' := 157) (v := .ref 60) ja_C_vote_154 rfl (by decide) ⟨rfl, by decide⟩ rfl ?_
    refine q_dup (pc' := 158) ja_C_vote_157 rfl rfl ?_
    refine q_getf (pc' := 161) (v := .int (s1 60 0)) ja_C_vote_158 rfl (by decide) ⟨rfl, by decide⟩ rfl ?_
    refine q_iconst (pc' := 162) ja_C_vote_161 rfl 1 (by decide) ?_
    refine q_isub (pc' := 163) ja_C_vote_162 rfl ?_
    refine q_putf (pc' := 166) ja_C_vote_163 rfl (by decide) rfl rfl rfl ?_
    intro s2 e2
    refine q_aload_n (pc' := 167) ja_C_vote_166 rfl rfl ?_
    refine q_getf (pc' := 170) (v := .ref 122) ja_C_vote_167 rfl (by decide) ⟨rfl, by decide⟩ rfl ?_
    refine q_getf (pc' := 173) (v := .int (s2 122 3)) ja_C_vote_170 rfl (by decide) ⟨rfl, by decide⟩ rfl ?_
    refine q_if_eq (pc' := 176) ja_C_vote_173 rfl ?_ ?_
    · intro h2
      refine q_iload_n (pc' := 203) ja_C_vote_202 rfl rfl ?_
      refine q_if_ne (pc' := 206) ja_C_vote_203 rfl ?_ ?_
      · intro h3
        refine q_aload_n (pc' := 212) ja_C_vote_211 rfl rfl ?_
        refine q_dup (pc' := 213) ja_C_vote_212 rfl rfl ?_
        refine q_getf (pc' := 216) (v := .int (s2 0 19)) ja_C_vote_213 rfl (by decide) ⟨rfl, by decide⟩ rfl ?_
        refine q_iconst (pc' := 217) ja_C_vote_216 rfl 1 (by decide) ?_
        refine q_iadd (pc' := 218) ja_C_vote_217 rfl ?_
        refine q_putf (pc' := 221) ja_C_vote_218 rfl (by decide) rfl rfl rfl ?_
        intro s3 e3
        refine q_aload_n (pc' := 222) ja_C_vote_221 rfl rfl ?_
        refine q_getf (pc' := 225) (v := .ref 122) ja_C_vote_222 rfl (by decide) ⟨rfl, by decide⟩ rfl ?_
        refine q_getf (pc' := 228) (v := .int (s3 122 3)) ja_C_vote_225 rfl (by decide) ⟨rfl, by decide⟩ rfl ?_
        refine q_if_eq (pc' := 231) ja_C_vote_228 rfl ?_ ?_
        · intro h4
          refine q_iconst (pc' := 236) ja_C_vote_235 rfl 0 (by decide) ?_
          exact q_iret ja_C_vote_236 rfl rfl (k1 h1 s1 e1 s2 e2 h2 h3 s3 e3 h4)
        · intro h5
          refine q_iconst (pc' := 232) ja_C_vote_231 rfl 1 (by decide) ?_
          refine q_goto ja_C_vote_232 ?_
          exact q_iret ja_C_vote_236 rfl rfl (k2 h1 s1 e1 s2 e2 h2 h3 s3 e3 h5)
      · intro h6
        refine q_aload_n (pc' := 207) ja_C_vote_206 rfl rfl ?_
        refine q_iconst (pc' := 208) ja_C_vote_207 rfl 4 (by decide) ?_
        refine q_virt (pc' := 211) (c := 0) (as := [.int 4]) (r := []) ja_C_vote_208 rfl rfl rfl (by decide) ⟨rfl, by decide⟩ ?_
        refine q_in (M := jm_C_leaveFloor) rfl (Nat.le_of_ble_eq_true rfl) (ls := [some (.ref 0), some (.int 4)]) rfl ?_
        refine q_aload_n (pc' := 1) ja_C_leaveFloor_0 rfl rfl ?_
        refine q_aload_n (pc' := 2) ja_C_leaveFloor_1 rfl rfl ?_
        refine q_getf (pc' := 5) (v := .int (s2 0 6)) ja_C_leaveFloor_2 rfl (by decide) ⟨rfl, by decide⟩ rfl ?_
        refine q_virt (pc' := 8) (c := 0) (as := [.int (s2 0 6)]) (r := []) ja_C_leaveFloor_5 rfl rfl rfl (by decide) ⟨rfl, by decide⟩ ?_
        refine q_in (M := jm_C_isBill) rfl (Nat.le_of_ble_eq_true rfl) (ls := [some (.ref 0), some (.int (s2 0 6))]) rfl ?_
        refine q_iload_n (pc' := 1) ja_C_isBill_0 rfl rfl ?_
        refine q_if_lt (pc' := 4) ja_C_isBill_1 rfl ?_ ?_
        · intro h7
          refine q_iconst (pc' := 26) ja_C_isBill_25 rfl 0 (by decide) ?_
          refine q_iret ja_C_isBill_26 rfl (by decide) ?_
          show q_W _ _ _ _ 8 [some (.ref 0), some (.int 4)] [.int 0] s2
          refine q_if_ne (pc' := 11) ja_C_leaveFloor_8 rfl (fun h => absurd ((by decide : (0 : Int32) = 0)) h) (fun _ => ?_)
          refine q_vret ja_C_leaveFloor_11 rfl ?_
          show q_W _ _ _ _ 211 [some (.ref 0), some (.int x1), some (.int x2), some (.int x3)] [] s2
          refine q_aload_n (pc' := 212) ja_C_vote_211 rfl rfl ?_
          refine q_dup (pc' := 213) ja_C_vote_212 rfl rfl ?_
          refine q_getf (pc' := 216) (v := .int (s2 0 19)) ja_C_vote_213 rfl (by decide) ⟨rfl, by decide⟩ rfl ?_
          refine q_iconst (pc' := 217) ja_C_vote_216 rfl 1 (by decide) ?_
          refine q_iadd (pc' := 218) ja_C_vote_217 rfl ?_
          refine q_putf (pc' := 221) ja_C_vote_218 rfl (by decide) rfl rfl rfl ?_
          intro s4 e4
          refine q_aload_n (pc' := 222) ja_C_vote_221 rfl rfl ?_
          refine q_getf (pc' := 225) (v := .ref 122) ja_C_vote_222 rfl (by decide) ⟨rfl, by decide⟩ rfl ?_
          refine q_getf (pc' := 228) (v := .int (s4 122 3)) ja_C_vote_225 rfl (by decide) ⟨rfl, by decide⟩ rfl ?_
          refine q_if_eq (pc' := 231) ja_C_vote_228 rfl ?_ ?_
          · intro h8
            refine q_iconst (pc' := 236) ja_C_vote_235 rfl 0 (by decide) ?_
            exact q_iret ja_C_vote_236 rfl rfl (k3 h1 s1 e1 s2 e2 h2 h6 h7 s4 e4 h8)
          · intro h9
            refine q_iconst (pc' := 232) ja_C_vote_231 rfl 1 (by decide) ?_
            refine q_goto ja_C_vote_232 ?_
            exact q_iret ja_C_vote_236 rfl rfl (k4 h1 s1 e1 s2 e2 h2 h6 h7 s4 e4 h9)
        · intro h10
          refine q_iload_n (pc' := 5) ja_C_isBill_4 rfl rfl ?_
          refine q_aload_n (pc' := 6) ja_C_isBill_5 rfl rfl ?_
          refine q_getf (pc' := 9) (v := .int (s2 0 3)) ja_C_isBill_6 rfl (by decide) ⟨rfl, by decide⟩ rfl ?_
          refine q_ic_ge (pc' := 12) ja_C_isBill_9 rfl ?_ ?_
          · intro h11
            refine q_iconst (pc' := 26) ja_C_isBill_25 rfl 0 (by decide) ?_
            refine q_iret ja_C_isBill_26 rfl (by decide) ?_
            show q_W _ _ _ _ 8 [some (.ref 0), some (.int 4)] [.int 0] s2
            refine q_if_ne (pc' := 11) ja_C_leaveFloor_8 rfl (fun h => absurd ((by decide : (0 : Int32) = 0)) h) (fun _ => ?_)
            refine q_vret ja_C_leaveFloor_11 rfl ?_
            show q_W _ _ _ _ 211 [some (.ref 0), some (.int x1), some (.int x2), some (.int x3)] [] s2
            refine q_aload_n (pc' := 212) ja_C_vote_211 rfl rfl ?_
            refine q_dup (pc' := 213) ja_C_vote_212 rfl rfl ?_
            refine q_getf (pc' := 216) (v := .int (s2 0 19)) ja_C_vote_213 rfl (by decide) ⟨rfl, by decide⟩ rfl ?_
            refine q_iconst (pc' := 217) ja_C_vote_216 rfl 1 (by decide) ?_
            refine q_iadd (pc' := 218) ja_C_vote_217 rfl ?_
            refine q_putf (pc' := 221) ja_C_vote_218 rfl (by decide) rfl rfl rfl ?_
            intro s5 e5
            refine q_aload_n (pc' := 222) ja_C_vote_221 rfl rfl ?_
            refine q_getf (pc' := 225) (v := .ref 122) ja_C_vote_222 rfl (by decide) ⟨rfl, by decide⟩ rfl ?_
            refine q_getf (pc' := 228) (v := .int (s5 122 3)) ja_C_vote_225 rfl (by decide) ⟨rfl, by decide⟩ rfl ?_
            refine q_if_eq (pc' := 231) ja_C_vote_228 rfl ?_ ?_
            · intro h12
              refine q_iconst (pc' := 236) ja_C_vote_235 rfl 0 (by decide) ?_
              exact q_iret ja_C_vote_236 rfl rfl (k5 h1 s1 e1 s2 e2 h2 h6 h10 h11 s5 e5 h12)
            · intro h13
              refine q_iconst (pc' := 232) ja_C_vote_231 rfl 1 (by decide) ?_
              refine q_goto ja_C_vote_232 ?_
              exact q_iret ja_C_vote_236 rfl rfl (k6 h1 s1 e1 s2 e2 h2 h6 h10 h11 s5 e5 h13)
          · intro h14
            refine q_iload_n (pc' := 13) ja_C_isBill_12 rfl rfl ?_
            refine q_aload_n (pc' := 14) ja_C_isBill_13 rfl rfl ?_
            refine q_getf (pc' := 17) (v := .ref 32) ja_C_isBill_14 rfl (by decide) ⟨rfl, by decide⟩ rfl ?_
            refine q_alen (pc' := 18) ja_C_isBill_17 rfl (by decide) (kd := 17) (l := 8) rfl (by decide) (v := 8) (by decide) ?_
            refine q_ic_ge (pc' := 21) ja_C_isBill_18 rfl ?_ ?_
            · intro h15
              refine q_iconst (pc' := 26) ja_C_isBill_25 rfl 0 (by decide) ?_
              refine q_iret ja_C_isBill_26 rfl (by decide) ?_
              show q_W _ _ _ _ 8 [some (.ref 0), some (.int 4)] [.int 0] s2
              refine q_if_ne (pc' := 11) ja_C_leaveFloor_8 rfl (fun h => absurd ((by decide : (0 : Int32) = 0)) h) (fun _ => ?_)
              refine q_vret ja_C_leaveFloor_11 rfl ?_
              show q_W _ _ _ _ 211 [some (.ref 0), some (.int x1), some (.int x2), some (.int x3)] [] s2
              refine q_aload_n (pc' := 212) ja_C_vote_211 rfl rfl ?_
              refine q_dup (pc' := 213) ja_C_vote_212 rfl rfl ?_
              refine q_getf (pc' := 216) (v := .int (s2 0 19)) ja_C_vote_213 rfl (by decide) ⟨rfl, by decide⟩ rfl ?_
              refine q_iconst (pc' := 217) ja_C_vote_216 rfl 1 (by decide) ?_
              refine q_iadd (pc' := 218) ja_C_vote_217 rfl ?_
              refine q_putf (pc' := 221) ja_C_vote_218 rfl (by decide) rfl rfl rfl ?_
              intro s6 e6
              refine q_aload_n (pc' := 222) ja_C_vote_221 rfl rfl ?_
              refine q_getf (pc' := 225) (v := .ref 122) ja_C_vote_222 rfl (by decide) ⟨rfl, by decide⟩ rfl ?_
              refine q_getf (pc' := 228) (v := .int (s6 122 3)) ja_C_vote_225 rfl (by decide) ⟨rfl, by decide⟩ rfl ?_
              refine q_if_eq (pc' := 231) ja_C_vote_228 rfl ?_ ?_
              · intro h16
                refine q_iconst (pc' := 236) ja_C_vote_235 rfl 0 (by decide) ?_
                exact q_iret ja_C_vote_236 rfl rfl (k7 h1 s1 e1 s2 e2 h2 h6 h10 h14 h15 s6 e6 h16)
              · intro h17
                refine q_iconst (pc' := 232) ja_C_vote_231 rfl 1 (by decide) ?_
                refine q_goto ja_C_vote_232 ?_
                exact q_iret ja_C_vote_236 rfl rfl (k8 h1 s1 e1 s2 e2 h2 h6 h10 h14 h15 s6 e6 h17)
            · intro h18
              refine q_iconst (pc' := 22) ja_C_isBill_21 rfl 1 (by decide) ?_
              refine q_goto ja_C_isBill_22 ?_
              refine q_iret ja_C_isBill_26 rfl (by decide) ?_
              show q_W _ _ _ _ 8 [some (.ref 0), some (.int 4)] [.int 1] s2
              refine q_if_ne (pc' := 11) ja_C_leaveFloor_8 rfl (fun _ => ?_) (fun h => absurd h ((by decide : ¬ (1 : Int32) = 0)))
              refine q_aload_n (pc' := 13) ja_C_leaveFloor_12 rfl rfl ?_
              refine q_getf (pc' := 16) (v := .ref 32) ja_C_leaveFloor_13 rfl (by decide) ⟨rfl, by decide⟩ rfl ?_
              refine q_aload_n (pc' := 17) ja_C_leaveFloor_16 rfl rfl ?_
              refine q_getf (pc' := 20) (v := .int (s2 0 6)) ja_C_leaveFloor_17 rfl (by decide) ⟨rfl, by decide⟩ rfl ?_
              refine q_aald (pc' := 21) (v := .ref (33 + 3 * (s2 0 6).toNatClampNeg)) ja_C_leaveFloor_20 rfl (by decide) (kd := 17) (l := 8) rfl (by decide) (q_inr (l := 8) (by decide) h10 h18) (f_A32 (f_in (q_inr (l := 8) (by decide) h10 h18))) ?_
              refine q_iload_n (pc' := 22) ja_C_leaveFloor_21 rfl rfl ?_
              refine q_putf (pc' := 25) ja_C_leaveFloor_22 rfl (f_1_c (f_m32 (f_in (q_inr (l := 8) (by decide) h10 h18)))) (by rw [f_1_k (f_m32 (f_in (q_inr (l := 8) (by decide) h10 h18)))]) rfl (by rw [f_1_k (f_m32 (f_in (q_inr (l := 8) (by decide) h10 h18)))]; rfl) ?_
              intro s7 e7
              refine q_iload_n (pc' := 26) ja_C_leaveFloor_25 rfl rfl ?_
              refine q_if_ne (pc' := 29) ja_C_leaveFloor_26 rfl (fun _ => ?_) (fun h => absurd h ((by decide : ¬ (4 : Int32) = 0)))
              refine q_aload_n (pc' := 43) ja_C_leaveFloor_42 rfl rfl ?_
              refine q_iconst (pc' := 44) ja_C_leaveFloor_43 rfl (-1) (by decide) ?_
              refine q_putf (pc' := 47) ja_C_leaveFloor_44 rfl (by decide) rfl rfl rfl ?_
              intro s8 e8
              refine q_aload_n (pc' := 48) ja_C_leaveFloor_47 rfl rfl ?_
              refine q_getf (pc' := 51) (v := .ref 60) ja_C_leaveFloor_48 rfl (by decide) ⟨rfl, by decide⟩ rfl ?_
              refine q_iconst (pc' := 52) ja_C_leaveFloor_51 rfl 0 (by decide) ?_
              refine q_putf (pc' := 55) ja_C_leaveFloor_52 rfl (by decide) rfl rfl rfl ?_
              intro s9 e9
              refine q_aload_n (pc' := 56) ja_C_leaveFloor_55 rfl rfl ?_
              refine q_getf (pc' := 59) (v := .ref 65) ja_C_leaveFloor_56 rfl (by decide) ⟨rfl, by decide⟩ rfl ?_
              refine q_getf (pc' := 62) (v := .ref 66) ja_C_leaveFloor_59 rfl (by decide) ⟨rfl, by decide⟩ rfl ?_
              refine q_iconst (pc' := 63) ja_C_leaveFloor_62 rfl 0 (by decide) ?_
              refine q_putf (pc' := 66) ja_C_leaveFloor_63 rfl (by decide) rfl rfl rfl ?_
              intro s10 e10
              refine q_vret ja_C_leaveFloor_66 rfl ?_
              show q_W _ _ _ _ 211 [some (.ref 0), some (.int x1), some (.int x2), some (.int x3)] [] s10
              refine q_aload_n (pc' := 212) ja_C_vote_211 rfl rfl ?_
              refine q_dup (pc' := 213) ja_C_vote_212 rfl rfl ?_
              refine q_getf (pc' := 216) (v := .int (s10 0 19)) ja_C_vote_213 rfl (by decide) ⟨rfl, by decide⟩ rfl ?_
              refine q_iconst (pc' := 217) ja_C_vote_216 rfl 1 (by decide) ?_
              refine q_iadd (pc' := 218) ja_C_vote_217 rfl ?_
              refine q_putf (pc' := 221) ja_C_vote_218 rfl (by decide) rfl rfl rfl ?_
              intro s11 e11
              refine q_aload_n (pc' := 222) ja_C_vote_221 rfl rfl ?_
              refine q_getf (pc' := 225) (v := .ref 122) ja_C_vote_222 rfl (by decide) ⟨rfl, by decide⟩ rfl ?_
              refine q_getf (pc' := 228) (v := .int (s11 122 3)) ja_C_vote_225 rfl (by decide) ⟨rfl, by decide⟩ rfl ?_
              refine q_if_eq (pc' := 231) ja_C_vote_228 rfl ?_ ?_
              · intro h19
                refine q_iconst (pc' := 236) ja_C_vote_235 rfl 0 (by decide) ?_
                exact q_iret ja_C_vote_236 rfl rfl (k9 h1 s1 e1 s2 e2 h2 h6 h10 h14 h18 s7 e7 s8 e8 s9 e9 s10 e10 s11 e11 h19)
              · intro h20
                refine q_iconst (pc' := 232) ja_C_vote_231 rfl 1 (by decide) ?_
                refine q_goto ja_C_vote_232 ?_
                exact q_iret ja_C_vote_236 rfl rfl (k10 h1 s1 e1 s2 e2 h2 h6 h10 h14 h18 s7 e7 s8 e8 s9 e9 s10 e10 s11 e11 h20)
    · intro h21
      refine q_aload_n (pc' := 177) ja_C_vote_176 rfl rfl ?_
      refine q_iload_n (pc' := 178) ja_C_vote_177 rfl rfl ?_
      refine q_aload_n (pc' := 179) ja_C_vote_178 rfl rfl ?_
      refine q_getf (pc' := 182) (v := .ref 60) ja_C_vote_179 rfl (by decide) ⟨rfl, by decide⟩ rfl ?_
      refine q_getf (pc' := 185) (v := .ref 63) ja_C_vote_182 rfl (by decide) ⟨rfl, by decide⟩ rfl ?_
      refine q_iload_n (pc' := 186) ja_C_vote_185 rfl rfl ?_
      refine q_iald (pc' := 187) (v := .int (s2 63 x1.toNatClampNeg)) ja_C_vote_186 rfl (by decide) (l := 8) rfl (k11 h1 s1 e1 s2 e2 h21) rfl ?_
      refine q_aload_n (pc' := 188) ja_C_vote_187 rfl rfl ?_
      refine q_getf (pc' := 191) (v := .ref 60) ja_C_vote_188 rfl (by decide) ⟨rfl, by decide⟩ rfl ?_
      refine q_getf (pc' := 194) (v := .ref 64) ja_C_vote_191 rfl (by decide) ⟨rfl, by decide⟩ rfl ?_
      refine q_iload_n (pc' := 195) ja_C_vote_194 rfl rfl ?_
      refine q_iald (pc' := 196) (v := .int (s2 64 x1.toNatClampNeg)) ja_C_vote_195 rfl (by decide) (l := 8) rfl (k12 h1 s1 e1 s2 e2 h21) rfl ?_
      refine q_virt (pc' := 199) (c := 0) (as := [.int x2, .int (s2 63 x1.toNatClampNeg), .int (s2 64 x1.toNatClampNeg)]) (r := []) ja_C_vote_196 rfl rfl rfl (by decide) ⟨rfl, by decide⟩ ?_
      exact (k13 h1 s1 e1 s2 e2 h21)
  · intro h22
    refine q_iconst (pc' := 146) ja_C_vote_145 rfl 1 (by decide) ?_
    refine q_goto ja_C_vote_146 ?_
    refine q_putf (pc' := 153) ja_C_vote_150 rfl (by decide) rfl (by decide) rfl ?_
    intro s12 e12
    refine q_aload_n (pc' := 154) ja_C_vote_153 rfl rfl ?_
    refine q_getf (pc' := 157) (v := .ref 60) ja_C_vote_154 rfl (by decide) ⟨rfl, by decide⟩ rfl ?_
    refine q_dup (pc' := 158) ja_C_vote_157 rfl rfl ?_
    refine q_getf (pc' := 161) (v := .int (s12 60 0)) ja_C_vote_158 rfl (by decide) ⟨rfl, by decide⟩ rfl ?_
    refine q_iconst (pc' := 162) ja_C_vote_161 rfl 1 (by decide) ?_
    refine q_isub (pc' := 163) ja_C_vote_162 rfl ?_
    refine q_putf (pc' := 166) ja_C_vote_163 rfl (by decide) rfl rfl rfl ?_
    intro s13 e13
    refine q_aload_n (pc' := 167) ja_C_vote_166 rfl rfl ?_
    refine q_getf (pc' := 170) (v := .ref 122) ja_C_vote_167 rfl (by decide) ⟨rfl, by decide⟩ rfl ?_
    refine q_getf (pc' := 173) (v := .int (s13 122 3)) ja_C_vote_170 rfl (by decide) ⟨rfl, by decide⟩ rfl ?_
    refine q_if_eq (pc' := 176) ja_C_vote_173 rfl ?_ ?_
    · intro h23
      refine q_iload_n (pc' := 203) ja_C_vote_202 rfl rfl ?_
      refine q_if_ne (pc' := 206) ja_C_vote_203 rfl ?_ ?_
      · intro h24
        refine q_aload_n (pc' := 212) ja_C_vote_211 rfl rfl ?_
        refine q_dup (pc' := 213) ja_C_vote_212 rfl rfl ?_
        refine q_getf (pc' := 216) (v := .int (s13 0 19)) ja_C_vote_213 rfl (by decide) ⟨rfl, by decide⟩ rfl ?_
        refine q_iconst (pc' := 217) ja_C_vote_216 rfl 1 (by decide) ?_
        refine q_iadd (pc' := 218) ja_C_vote_217 rfl ?_
        refine q_putf (pc' := 221) ja_C_vote_218 rfl (by decide) rfl rfl rfl ?_
        intro s14 e14
        refine q_aload_n (pc' := 222) ja_C_vote_221 rfl rfl ?_
        refine q_getf (pc' := 225) (v := .ref 122) ja_C_vote_222 rfl (by decide) ⟨rfl, by decide⟩ rfl ?_
        refine q_getf (pc' := 228) (v := .int (s14 122 3)) ja_C_vote_225 rfl (by decide) ⟨rfl, by decide⟩ rfl ?_
        refine q_if_eq (pc' := 231) ja_C_vote_228 rfl ?_ ?_
        · intro h25
          refine q_iconst (pc' := 236) ja_C_vote_235 rfl 0 (by decide) ?_
          exact q_iret ja_C_vote_236 rfl rfl (k14 h22 s12 e12 s13 e13 h23 h24 s14 e14 h25)
        · intro h26
          refine q_iconst (pc' := 232) ja_C_vote_231 rfl 1 (by decide) ?_
          refine q_goto ja_C_vote_232 ?_
          exact q_iret ja_C_vote_236 rfl rfl (k15 h22 s12 e12 s13 e13 h23 h24 s14 e14 h26)
      · intro h27
        refine q_aload_n (pc' := 207) ja_C_vote_206 rfl rfl ?_
        refine q_iconst (pc' := 208) ja_C_vote_207 rfl 4 (by decide) ?_
        refine q_virt (pc' := 211) (c := 0) (as := [.int 4]) (r := []) ja_C_vote_208 rfl rfl rfl (by decide) ⟨rfl, by decide⟩ ?_
        refine q_in (M := jm_C_leaveFloor) rfl (Nat.le_of_ble_eq_true rfl) (ls := [some (.ref 0), some (.int 4)]) rfl ?_
        refine q_aload_n (pc' := 1) ja_C_leaveFloor_0 rfl rfl ?_
        refine q_aload_n (pc' := 2) ja_C_leaveFloor_1 rfl rfl ?_
        refine q_getf (pc' := 5) (v := .int (s13 0 6)) ja_C_leaveFloor_2 rfl (by decide) ⟨rfl, by decide⟩ rfl ?_
        refine q_virt (pc' := 8) (c := 0) (as := [.int (s13 0 6)]) (r := []) ja_C_leaveFloor_5 rfl rfl rfl (by decide) ⟨rfl, by decide⟩ ?_
        refine q_in (M := jm_C_isBill) rfl (Nat.le_of_ble_eq_true rfl) (ls := [some (.ref 0), some (.int (s13 0 6))]) rfl ?_
        refine q_iload_n (pc' := 1) ja_C_isBill_0 rfl rfl ?_
        refine q_if_lt (pc' := 4) ja_C_isBill_1 rfl ?_ ?_
        · intro h28
          refine q_iconst (pc' := 26) ja_C_isBill_25 rfl 0 (by decide) ?_
          refine q_iret ja_C_isBill_26 rfl (by decide) ?_
          show q_W _ _ _ _ 8 [some (.ref 0), some (.int 4)] [.int 0] s13
          refine q_if_ne (pc' := 11) ja_C_leaveFloor_8 rfl (fun h => absurd ((by decide : (0 : Int32) = 0)) h) (fun _ => ?_)
          refine q_vret ja_C_leaveFloor_11 rfl ?_
          show q_W _ _ _ _ 211 [some (.ref 0), some (.int x1), some (.int x2), some (.int x3)] [] s13
          refine q_aload_n (pc' := 212) ja_C_vote_211 rfl rfl ?_
          refine q_dup (pc' := 213) ja_C_vote_212 rfl rfl ?_
          refine q_getf (pc' := 216) (v := .int (s13 0 19)) ja_C_vote_213 rfl (by decide) ⟨rfl, by decide⟩ rfl ?_
          refine q_iconst (pc' := 217) ja_C_vote_216 rfl 1 (by decide) ?_
          refine q_iadd (pc' := 218) ja_C_vote_217 rfl ?_
          refine q_putf (pc' := 221) ja_C_vote_218 rfl (by decide) rfl rfl rfl ?_
          intro s15 e15
          refine q_aload_n (pc' := 222) ja_C_vote_221 rfl rfl ?_
          refine q_getf (pc' := 225) (v := .ref 122) ja_C_vote_222 rfl (by decide) ⟨rfl, by decide⟩ rfl ?_
          refine q_getf (pc' := 228) (v := .int (s15 122 3)) ja_C_vote_225 rfl (by decide) ⟨rfl, by decide⟩ rfl ?_
          refine q_if_eq (pc' := 231) ja_C_vote_228 rfl ?_ ?_
          · intro h29
            refine q_iconst (pc' := 236) ja_C_vote_235 rfl 0 (by decide) ?_
            exact q_iret ja_C_vote_236 rfl rfl (k16 h22 s12 e12 s13 e13 h23 h27 h28 s15 e15 h29)
          · intro h30
            refine q_iconst (pc' := 232) ja_C_vote_231 rfl 1 (by decide) ?_
            refine q_goto ja_C_vote_232 ?_
            exact q_iret ja_C_vote_236 rfl rfl (k17 h22 s12 e12 s13 e13 h23 h27 h28 s15 e15 h30)
        · intro h31
          refine q_iload_n (pc' := 5) ja_C_isBill_4 rfl rfl ?_
          refine q_aload_n (pc' := 6) ja_C_isBill_5 rfl rfl ?_
          refine q_getf (pc' := 9) (v := .int (s13 0 3)) ja_C_isBill_6 rfl (by decide) ⟨rfl, by decide⟩ rfl ?_
          refine q_ic_ge (pc' := 12) ja_C_isBill_9 rfl ?_ ?_
          · intro h32
            refine q_iconst (pc' := 26) ja_C_isBill_25 rfl 0 (by decide) ?_
            refine q_iret ja_C_isBill_26 rfl (by decide) ?_
            show q_W _ _ _ _ 8 [some (.ref 0), some (.int 4)] [.int 0] s13
            refine q_if_ne (pc' := 11) ja_C_leaveFloor_8 rfl (fun h => absurd ((by decide : (0 : Int32) = 0)) h) (fun _ => ?_)
            refine q_vret ja_C_leaveFloor_11 rfl ?_
            show q_W _ _ _ _ 211 [some (.ref 0), some (.int x1), some (.int x2), some (.int x3)] [] s13
            refine q_aload_n (pc' := 212) ja_C_vote_211 rfl rfl ?_
            refine q_dup (pc' := 213) ja_C_vote_212 rfl rfl ?_
            refine q_getf (pc' := 216) (v := .int (s13 0 19)) ja_C_vote_213 rfl (by decide) ⟨rfl, by decide⟩ rfl ?_
            refine q_iconst (pc' := 217) ja_C_vote_216 rfl 1 (by decide) ?_
            refine q_iadd (pc' := 218) ja_C_vote_217 rfl ?_
            refine q_putf (pc' := 221) ja_C_vote_218 rfl (by decide) rfl rfl rfl ?_
            intro s16 e16
            refine q_aload_n (pc' := 222) ja_C_vote_221 rfl rfl ?_
            refine q_getf (pc' := 225) (v := .ref 122) ja_C_vote_222 rfl (by decide) ⟨rfl, by decide⟩ rfl ?_
            refine q_getf (pc' := 228) (v := .int (s16 122 3)) ja_C_vote_225 rfl (by decide) ⟨rfl, by decide⟩ rfl ?_
            refine q_if_eq (pc' := 231) ja_C_vote_228 rfl ?_ ?_
            · intro h33
              refine q_iconst (pc' := 236) ja_C_vote_235 rfl 0 (by decide) ?_
              exact q_iret ja_C_vote_236 rfl rfl (k18 h22 s12 e12 s13 e13 h23 h27 h31 h32 s16 e16 h33)
            · intro h34
              refine q_iconst (pc' := 232) ja_C_vote_231 rfl 1 (by decide) ?_
              refine q_goto ja_C_vote_232 ?_
              exact q_iret ja_C_vote_236 rfl rfl (k19 h22 s12 e12 s13 e13 h23 h27 h31 h32 s16 e16 h34)
          · intro h35
            refine q_iload_n (pc' := 13) ja_C_isBill_12 rfl rfl ?_
            refine q_aload_n (pc' := 14) ja_C_isBill_13 rfl rfl ?_
            refine q_getf (pc' := 17) (v := .ref 32) ja_C_isBill_14 rfl (by decide) ⟨rfl, by decide⟩ rfl ?_
            refine q_alen (pc' := 18) ja_C_isBill_17 rfl (by decide) (kd := 17) (l := 8) rfl (by decide) (v := 8) (by decide) ?_
            refine q_ic_ge (pc' := 21) ja_C_isBill_18 rfl ?_ ?_
            · intro h36
              refine q_iconst (pc' := 26) ja_C_isBill_25 rfl 0 (by decide) ?_
              refine q_iret ja_C_isBill_26 rfl (by decide) ?_
              show q_W _ _ _ _ 8 [some (.ref 0), some (.int 4)] [.int 0] s13
              refine q_if_ne (pc' := 11) ja_C_leaveFloor_8 rfl (fun h => absurd ((by decide : (0 : Int32) = 0)) h) (fun _ => ?_)
              refine q_vret ja_C_leaveFloor_11 rfl ?_
              show q_W _ _ _ _ 211 [some (.ref 0), some (.int x1), some (.int x2), some (.int x3)] [] s13
              refine q_aload_n (pc' := 212) ja_C_vote_211 rfl rfl ?_
              refine q_dup (pc' := 213) ja_C_vote_212 rfl rfl ?_
              refine q_getf (pc' := 216) (v := .int (s13 0 19)) ja_C_vote_213 rfl (by decide) ⟨rfl, by decide⟩ rfl ?_
              refine q_iconst (pc' := 217) ja_C_vote_216 rfl 1 (by decide) ?_
              refine q_iadd (pc' := 218) ja_C_vote_217 rfl ?_
              refine q_putf (pc' := 221) ja_C_vote_218 rfl (by decide) rfl rfl rfl ?_
              intro s17 e17
              refine q_aload_n (pc' := 222) ja_C_vote_221 rfl rfl ?_
              refine q_getf (pc' := 225) (v := .ref 122) ja_C_vote_222 rfl (by decide) ⟨rfl, by decide⟩ rfl ?_
              refine q_getf (pc' := 228) (v := .int (s17 122 3)) ja_C_vote_225 rfl (by decide) ⟨rfl, by decide⟩ rfl ?_
              refine q_if_eq (pc' := 231) ja_C_vote_228 rfl ?_ ?_
              · intro h37
                refine q_iconst (pc' := 236) ja_C_vote_235 rfl 0 (by decide) ?_
                exact q_iret ja_C_vote_236 rfl rfl (k20 h22 s12 e12 s13 e13 h23 h27 h31 h35 h36 s17 e17 h37)
              · intro h38
                refine q_iconst (pc' := 232) ja_C_vote_231 rfl 1 (by decide) ?_
                refine q_goto ja_C_vote_232 ?_
                exact q_iret ja_C_vote_236 rfl rfl (k21 h22 s12 e12 s13 e13 h23 h27 h31 h35 h36 s17 e17 h38)
            · intro h39
              refine q_iconst (pc' := 22) ja_C_isBill_21 rfl 1 (by decide) ?_
              refine q_goto ja_C_isBill_22 ?_
              refine q_iret ja_C_isBill_26 rfl (by decide) ?_
              show q_W _ _ _ _ 8 [some (.ref 0), some (.int 4)] [.int 1] s13
              refine q_if_ne (pc' := 11) ja_C_leaveFloor_8 rfl (fun _ => ?_) (fun h => absurd h ((by decide : ¬ (1 : Int32) = 0)))
              refine q_aload_n (pc' := 13) ja_C_leaveFloor_12 rfl rfl ?_
              refine q_getf (pc' := 16) (v := .ref 32) ja_C_leaveFloor_13 rfl (by decide) ⟨rfl, by decide⟩ rfl ?_
              refine q_aload_n (pc' := 17) ja_C_leaveFloor_16 rfl rfl ?_
              refine q_getf (pc' := 20) (v := .int (s13 0 6)) ja_C_leaveFloor_17 rfl (by decide) ⟨rfl, by decide⟩ rfl ?_
              refine q_aald (pc' := 21) (v := .ref (33 + 3 * (s13 0 6).toNatClampNeg)) ja_C_leaveFloor_20 rfl (by decide) (kd := 17) (l := 8) rfl (by decide) (q_inr (l := 8) (by decide) h31 h39) (f_A32 (f_in (q_inr (l := 8) (by decide) h31 h39))) ?_
              refine q_iload_n (pc' := 22) ja_C_leaveFloor_21 rfl rfl ?_
              refine q_putf (pc' := 25) ja_C_leaveFloor_22 rfl (f_1_c (f_m32 (f_in (q_inr (l := 8) (by decide) h31 h39)))) (by rw [f_1_k (f_m32 (f_in (q_inr (l := 8) (by decide) h31 h39)))]) rfl (by rw [f_1_k (f_m32 (f_in (q_inr (l := 8) (by decide) h31 h39)))]; rfl) ?_
              intro s18 e18
              refine q_iload_n (pc' := 26) ja_C_leaveFloor_25 rfl rfl ?_
              refine q_if_ne (pc' := 29) ja_C_leaveFloor_26 rfl (fun _ => ?_) (fun h => absurd h ((by decide : ¬ (4 : Int32) = 0)))
              refine q_aload_n (pc' := 43) ja_C_leaveFloor_42 rfl rfl ?_
              refine q_iconst (pc' := 44) ja_C_leaveFloor_43 rfl (-1) (by decide) ?_
              refine q_putf (pc' := 47) ja_C_leaveFloor_44 rfl (by decide) rfl rfl rfl ?_
              intro s19 e19
              refine q_aload_n (pc' := 48) ja_C_leaveFloor_47 rfl rfl ?_
              refine q_getf (pc' := 51) (v := .ref 60) ja_C_leaveFloor_48 rfl (by decide) ⟨rfl, by decide⟩ rfl ?_
              refine q_iconst (pc' := 52) ja_C_leaveFloor_51 rfl 0 (by decide) ?_
              refine q_putf (pc' := 55) ja_C_leaveFloor_52 rfl (by decide) rfl rfl rfl ?_
              intro s20 e20
              refine q_aload_n (pc' := 56) ja_C_leaveFloor_55 rfl rfl ?_
              refine q_getf (pc' := 59) (v := .ref 65) ja_C_leaveFloor_56 rfl (by decide) ⟨rfl, by decide⟩ rfl ?_
              refine q_getf (pc' := 62) (v := .ref 66) ja_C_leaveFloor_59 rfl (by decide) ⟨rfl, by decide⟩ rfl ?_
              refine q_iconst (pc' := 63) ja_C_leaveFloor_62 rfl 0 (by decide) ?_
              refine q_putf (pc' := 66) ja_C_leaveFloor_63 rfl (by decide) rfl rfl rfl ?_
              intro s21 e21
              refine q_vret ja_C_leaveFloor_66 rfl ?_
              show q_W _ _ _ _ 211 [some (.ref 0), some (.int x1), some (.int x2), some (.int x3)] [] s21
              refine q_aload_n (pc' := 212) ja_C_vote_211 rfl rfl ?_
              refine q_dup (pc' := 213) ja_C_vote_212 rfl rfl ?_
              refine q_getf (pc' := 216) (v := .int (s21 0 19)) ja_C_vote_213 rfl (by decide) ⟨rfl, by decide⟩ rfl ?_
              refine q_iconst (pc' := 217) ja_C_vote_216 rfl 1 (by decide) ?_
              refine q_iadd (pc' := 218) ja_C_vote_217 rfl ?_
              refine q_putf (pc' := 221) ja_C_vote_218 rfl (by decide) rfl rfl rfl ?_
              intro s22 e22
              refine q_aload_n (pc' := 222) ja_C_vote_221 rfl rfl ?_
              refine q_getf (pc' := 225) (v := .ref 122) ja_C_vote_222 rfl (by decide) ⟨rfl, by decide⟩ rfl ?_
              refine q_getf (pc' := 228) (v := .int (s22 122 3)) ja_C_vote_225 rfl (by decide) ⟨rfl, by decide⟩ rfl ?_
              refine q_if_eq (pc' := 231) ja_C_vote_228 rfl ?_ ?_
              · intro h40
                refine q_iconst (pc' := 236) ja_C_vote_235 rfl 0 (by decide) ?_
                exact q_iret ja_C_vote_236 rfl rfl (k22 h22 s12 e12 s13 e13 h23 h27 h31 h35 h39 s18 e18 s19 e19 s20 e20 s21 e21 s22 e22 h40)
              · intro h41
                refine q_iconst (pc' := 232) ja_C_vote_231 rfl 1 (by decide) ?_
                refine q_goto ja_C_vote_232 ?_
                exact q_iret ja_C_vote_236 rfl rfl (k23 h22 s12 e12 s13 e13 h23 h27 h31 h35 h39 s18 e18 s19 e19 s20 e20 s21 e21 s22 e22 h41)
    · intro h42
      refine q_aload_n (pc' := 177) ja_C_vote_176 rfl rfl ?_
      refine q_iload_n (pc' := 178) ja_C_vote_177 rfl rfl ?_
      refine q_aload_n (pc' := 179) ja_C_vote_178 rfl rfl ?_
      refine q_getf (pc' := 182) (v := .ref 60) ja_C_vote_179 rfl (by decide) ⟨rfl, by decide⟩ rfl ?_
      refine q_getf (pc' := 185) (v := .ref 63) ja_C_vote_182 rfl (by decide) ⟨rfl, by decide⟩ rfl ?_
      refine q_iload_n (pc' := 186) ja_C_vote_185 rfl rfl ?_
      refine q_iald (pc' := 187) (v := .int (s13 63 x1.toNatClampNeg)) ja_C_vote_186 rfl (by decide) (l := 8) rfl (k24 h22 s12 e12 s13 e13 h42) rfl ?_
      refine q_aload_n (pc' := 188) ja_C_vote_187 rfl rfl ?_
      refine q_getf (pc' := 191) (v := .ref 60) ja_C_vote_188 rfl (by decide) ⟨rfl, by decide⟩ rfl ?_
      refine q_getf (pc' := 194) (v := .ref 64) ja_C_vote_191 rfl (by decide) ⟨rfl, by decide⟩ rfl ?_
      refine q_iload_n (pc' := 195) ja_C_vote_194 rfl rfl ?_
      refine q_iald (pc' := 196) (v := .int (s13 64 x1.toNatClampNeg)) ja_C_vote_195 rfl (by decide) (l := 8) rfl (k25 h22 s12 e12 s13 e13 h42) rfl ?_
      refine q_virt (pc' := 199) (c := 0) (as := [.int x2, .int (s13 63 x1.toNatClampNeg), .int (s13 64 x1.toNatClampNeg)]) (r := []) ja_C_vote_196 rfl rfl rfl (by decide) ⟨rfl, by decide⟩ ?_
      exact (k26 h22 s12 e12 s13 e13 h42)
set_option maxRecDepth 20000 in
theorem t_C_vote_199 {G : jv_X} {d : Nat} {B : Option Value → jg_H → Prop} {s : jg_H} (x1 : Int32) (x2 : Int32) (x3 : Int32)
    (k1 : ∀ s1 : jg_H, s1 = jg_up s 0 19 ((s 0 19) + 1) → (s1 122 3) = 0 → B (some (.int 0)) s1)
    (k2 : ∀ s1 : jg_H, s1 = jg_up s 0 19 ((s 0 19) + 1) → ¬ (s1 122 3) = 0 → B (some (.int 1)) s1) :
    q_W G (d + 2) jm_C_vote B 199 [some (.ref 0), some (.int x1), some (.int x2), some (.int x3)] [] s := by
  refine q_goto ja_C_vote_199 ?_
  refine q_aload_n (pc' := 212) ja_C_vote_211 rfl rfl ?_
  refine q_dup (pc' := 213) ja_C_vote_212 rfl rfl ?_
  refine q_getf (pc' := 216) (v := .int (s 0 19)) ja_C_vote_213 rfl (by decide) ⟨rfl, by decide⟩ rfl ?_
  refine q_iconst (pc' := 217) ja_C_vote_216 rfl 1 (by decide) ?_
  refine q_iadd (pc' := 218) ja_C_vote_217 rfl ?_
  refine q_putf (pc' := 221) ja_C_vote_218 rfl (by decide) rfl rfl rfl ?_
  intro s1 e1
  refine q_aload_n (pc' := 222) ja_C_vote_221 rfl rfl ?_
  refine q_getf (pc' := 225) (v := .ref 122) ja_C_vote_222 rfl (by decide) ⟨rfl, by decide⟩ rfl ?_
  refine q_getf (pc' := 228) (v := .int (s1 122 3)) ja_C_vote_225 rfl (by decide) ⟨rfl, by decide⟩ rfl ?_
  refine q_if_eq (pc' := 231) ja_C_vote_228 rfl ?_ ?_
  · intro h1
    refine q_iconst (pc' := 236) ja_C_vote_235 rfl 0 (by decide) ?_
    exact q_iret ja_C_vote_236 rfl rfl (k1 s1 e1 h1)
  · intro h2
    refine q_iconst (pc' := 232) ja_C_vote_231 rfl 1 (by decide) ?_
    refine q_goto ja_C_vote_232 ?_
    exact q_iret ja_C_vote_236 rfl rfl (k2 s1 e1 h2)
set_option maxRecDepth 20000 in
theorem t_C_voted {G : jv_X} {d : Nat} {B : Option Value → jg_H → Prop} {s : jg_H} (a1 : Int32)
    (k1 : a1 = 0 → B (some (.int (s 122 0))) s)
    (k2 : ¬ a1 = 0 → a1 = 1 → B (some (.int (s 122 1))) s)
    (k3 : ¬ a1 = 0 → ¬ a1 = 1 → a1 = 2 → B (some (.int (s 122 2))) s)
    (k4 : ¬ a1 = 0 → ¬ a1 = 1 → ¬ a1 = 2 → a1 = 3 → (s 122 3) = 0 → B (some (.int 0)) s)
    (k5 : ¬ a1 = 0 → ¬ a1 = 1 → ¬ a1 = 2 → a1 = 3 → ¬ (s 122 3) = 0 → B (some (.int 1)) s)
    (k6 : ¬ a1 = 0 → ¬ a1 = 1 → ¬ a1 = 2 → ¬ a1 = 3 → B (some (.int (-2))) s) :
    q_P G (d + 1) 101 [.ref 0, .int a1] s B := by
  refine q_in (M := jm_C_voted) rfl (Nat.le_of_ble_eq_true rfl) (ls := [some (.ref 0), some (.int a1)]) rfl ?_
  refine q_iload_n (pc' := 1) ja_C_voted_0 rfl rfl ?_
  by_cases h1 : a1 = 0
  · refine q_swE (pc' := 32) ja_C_voted_1 (by rw [h1]; decide) (by rw [h1]; exact ⟨_, rfl, rfl⟩) ?_
    refine q_aload_n (pc' := 33) ja_C_voted_32 rfl rfl ?_
    refine q_getf (pc' := 36) (v := .ref 122) ja_C_voted_33 rfl (by decide) ⟨rfl, by decide⟩ rfl ?_
    refine q_getf (pc' := 39) (v := .int (s 122 0)) ja_C_voted_36 rfl (by decide) ⟨rfl, by decide⟩ rfl ?_
    exact q_iret ja_C_voted_39 rfl rfl (k1 h1)
  by_cases h2 : a1 = 1
  · refine q_swE (pc' := 40) ja_C_voted_1 (by rw [h2]; decide) (by rw [h2]; exact ⟨_, rfl, rfl⟩) ?_
    refine q_aload_n (pc' := 41) ja_C_voted_40 rfl rfl ?_
    refine q_getf (pc' := 44) (v := .ref 122) ja_C_voted_41 rfl (by decide) ⟨rfl, by decide⟩ rfl ?_
    refine q_getf (pc' := 47) (v := .int (s 122 1)) ja_C_voted_44 rfl (by decide) ⟨rfl, by decide⟩ rfl ?_
    exact q_iret ja_C_voted_47 rfl rfl (k2 h1 h2)
  by_cases h3 : a1 = 2
  · refine q_swE (pc' := 48) ja_C_voted_1 (by rw [h3]; decide) (by rw [h3]; exact ⟨_, rfl, rfl⟩) ?_
    refine q_aload_n (pc' := 49) ja_C_voted_48 rfl rfl ?_
    refine q_getf (pc' := 52) (v := .ref 122) ja_C_voted_49 rfl (by decide) ⟨rfl, by decide⟩ rfl ?_
    refine q_getf (pc' := 55) (v := .int (s 122 2)) ja_C_voted_52 rfl (by decide) ⟨rfl, by decide⟩ rfl ?_
    exact q_iret ja_C_voted_55 rfl rfl (k3 h1 h2 h3)
  by_cases h4 : a1 = 3
  · refine q_swE (pc' := 56) ja_C_voted_1 (by rw [h4]; decide) (by rw [h4]; exact ⟨_, rfl, rfl⟩) ?_
    refine q_aload_n (pc' := 57) ja_C_voted_56 rfl rfl ?_
    refine q_getf (pc' := 60) (v := .ref 122) ja_C_voted_57 rfl (by decide) ⟨rfl, by decide⟩ rfl ?_
    refine q_getf (pc' := 63) (v := .int (s 122 3)) ja_C_voted_60 rfl (by decide) ⟨rfl, by decide⟩ rfl ?_
    refine q_if_eq (pc' := 66) ja_C_voted_63 rfl ?_ ?_
    · intro h5
      refine q_iconst (pc' := 71) ja_C_voted_70 rfl 0 (by decide) ?_
      exact q_iret ja_C_voted_71 rfl rfl (k4 h1 h2 h3 h4 h5)
    · intro h6
      refine q_iconst (pc' := 67) ja_C_voted_66 rfl 1 (by decide) ?_
      refine q_goto ja_C_voted_67 ?_
      exact q_iret ja_C_voted_71 rfl rfl (k5 h1 h2 h3 h4 h6)
  refine q_swD (pc' := 72) ja_C_voted_1 [0, 1, 2, 3] (List.forall_mem_cons.mpr ⟨fun e => h1 (by rw [e]; decide), (List.forall_mem_cons.mpr ⟨fun e => h2 (by rw [e]; decide), (List.forall_mem_cons.mpr ⟨fun e => h3 (by rw [e]; decide), (List.forall_mem_cons.mpr ⟨fun e => h4 (by rw [e]; decide), (List.forall_mem_nil _)⟩)⟩)⟩)⟩) (by decide) rfl ?_
  refine q_bipush (pc' := 74) ja_C_voted_72 rfl (-2) (by decide) ?_
  exact q_iret ja_C_voted_74 rfl rfl (k6 h1 h2 h3 h4)
set_option maxRecDepth 20000 in
theorem t_C_why {G : jv_X} {d : Nat} {B : Option Value → jg_H → Prop} {s : jg_H} (a1 : Int32) (a2 : Int32) (a3 : Int32) (a4 : Int32)
    (k1 : q_P G d 81 [.ref 0, .int a1, .int a2, .int a3, .int a4] s (fun v t => q_W G d jm_C_why B 9 [some (.ref 0), some (.int a1), some (.int a2), some (.int a3), some (.int a4)] (v.toList ++ []) t)) :
    q_P G (d + 1) 91 [.ref 0, .int a1, .int a2, .int a3, .int a4] s B := by
  refine q_in (M := jm_C_why) rfl (Nat.le_of_ble_eq_true rfl) (ls := [some (.ref 0), some (.int a1), some (.int a2), some (.int a3), some (.int a4)]) rfl ?_
  refine q_aload_n (pc' := 1) ja_C_why_0 rfl rfl ?_
  refine q_iload_n (pc' := 2) ja_C_why_1 rfl rfl ?_
  refine q_iload_n (pc' := 3) ja_C_why_2 rfl rfl ?_
  refine q_iload_n (pc' := 4) ja_C_why_3 rfl rfl ?_
  refine q_iload (pc' := 6) ja_C_why_4 rfl rfl ?_
  refine q_virt (pc' := 9) (c := 0) (as := [.int a1, .int a2, .int a3, .int a4]) (r := []) ja_C_why_6 rfl rfl rfl (by decide) ⟨rfl, by decide⟩ ?_
  exact k1
set_option maxRecDepth 20000 in
theorem t_C_why_9 {G : jv_X} {d : Nat} {B : Option Value → jg_H → Prop} {s : jg_H} (x1 : Int32) (x2 : Int32) (x3 : Int32) (x4 : Int32) (y0 : Int32)
    (k1 : B (some (.int y0)) s) :
    q_W G d jm_C_why B 9 [some (.ref 0), some (.int x1), some (.int x2), some (.int x3), some (.int x4)] [.int y0] s := by
  exact q_iret ja_C_why_9 rfl rfl k1
set_option maxRecDepth 20000 in
theorem t_C_word {G : jv_X} {d : Nat} {B : Option Value → jg_H → Prop} {s : jg_H} (a1 : Int32) (a2 : Int32)
    (k1 : a1 < 0 → B (some (.int (-2))) s)
    (k2 : ¬ a1 < 0 → ¬ a1 < (s 0 3) → B (some (.int (-2))) s)
    (k3 : ¬ a1 < 0 → a1 < (s 0 3) → ¬ a1 < 8 → B (some (.int (-2))) s)
    (k4 : ¬ a1 < 0 → a1 < (s 0 3) → a1 < 8 → a2 < 0 → B (some (.int (-1))) s)
    (k5 : ¬ a1 < 0 → a1 < (s 0 3) → a1 < 8 → ¬ a2 < 0 → ¬ a2 < (s ((33 + 3 * a1.toNatClampNeg) + 1) 0) → B (some (.int (-1))) s)
    (k6 : ¬ a1 < 0 → a1 < (s 0 3) → a1 < 8 → ¬ a2 < 0 → a2 < (s ((33 + 3 * a1.toNatClampNeg) + 1) 0) → ¬ a2 < 10 → B (some (.int (-1))) s)
    (k7 : ¬ a1 < 0 → a1 < (s 0 3) → a1 < 8 → ¬ a2 < 0 → a2 < (s ((33 + 3 * a1.toNatClampNeg) + 1) 0) → a2 < 10 → B (some (.int (s (((33 + 3 * a1.toNatClampNeg) + 1) + 1) a2.toNatClampNeg))) s) :
    q_P G (d + 2) 61 [.ref 0, .int a1, .int a2] s B := by
  refine q_in (M := jm_C_word) rfl (Nat.le_of_ble_eq_true rfl) (ls := [some (.ref 0), some (.int a1), some (.int a2)]) rfl ?_
  refine q_aload_n (pc' := 1) ja_C_word_0 rfl rfl ?_
  refine q_iload_n (pc' := 2) ja_C_word_1 rfl rfl ?_
  refine q_virt (pc' := 5) (c := 0) (as := [.int a1]) (r := []) ja_C_word_2 rfl rfl rfl (by decide) ⟨rfl, by decide⟩ ?_
  refine q_in (M := jm_C_isBill) rfl (Nat.le_of_ble_eq_true rfl) (ls := [some (.ref 0), some (.int a1)]) rfl ?_
  refine q_iload_n (pc' := 1) ja_C_isBill_0 rfl rfl ?_
  refine q_if_lt (pc' := 4) ja_C_isBill_1 rfl ?_ ?_
  · intro h1
    refine q_iconst (pc' := 26) ja_C_isBill_25 rfl 0 (by decide) ?_
    refine q_iret ja_C_isBill_26 rfl (by decide) ?_
    show q_W _ _ _ _ 5 [some (.ref 0), some (.int a1), some (.int a2)] [.int 0] s
    refine q_if_ne (pc' := 8) ja_C_word_5 rfl (fun h => absurd ((by decide : (0 : Int32) = 0)) h) (fun _ => ?_)
    refine q_bipush (pc' := 10) ja_C_word_8 rfl (-2) (by decide) ?_
    exact q_iret ja_C_word_10 rfl rfl (k1 h1)
  · intro h2
    refine q_iload_n (pc' := 5) ja_C_isBill_4 rfl rfl ?_
    refine q_aload_n (pc' := 6) ja_C_isBill_5 rfl rfl ?_
    refine q_getf (pc' := 9) (v := .int (s 0 3)) ja_C_isBill_6 rfl (by decide) ⟨rfl, by decide⟩ rfl ?_
    refine q_ic_ge (pc' := 12) ja_C_isBill_9 rfl ?_ ?_
    · intro h3
      refine q_iconst (pc' := 26) ja_C_isBill_25 rfl 0 (by decide) ?_
      refine q_iret ja_C_isBill_26 rfl (by decide) ?_
      show q_W _ _ _ _ 5 [some (.ref 0), some (.int a1), some (.int a2)] [.int 0] s
      refine q_if_ne (pc' := 8) ja_C_word_5 rfl (fun h => absurd ((by decide : (0 : Int32) = 0)) h) (fun _ => ?_)
      refine q_bipush (pc' := 10) ja_C_word_8 rfl (-2) (by decide) ?_
      exact q_iret ja_C_word_10 rfl rfl (k2 h2 h3)
    · intro h4
      refine q_iload_n (pc' := 13) ja_C_isBill_12 rfl rfl ?_
      refine q_aload_n (pc' := 14) ja_C_isBill_13 rfl rfl ?_
      refine q_getf (pc' := 17) (v := .ref 32) ja_C_isBill_14 rfl (by decide) ⟨rfl, by decide⟩ rfl ?_
      refine q_alen (pc' := 18) ja_C_isBill_17 rfl (by decide) (kd := 17) (l := 8) rfl (by decide) (v := 8) (by decide) ?_
      refine q_ic_ge (pc' := 21) ja_C_isBill_18 rfl ?_ ?_
      · intro h5
        refine q_iconst (pc' := 26) ja_C_isBill_25 rfl 0 (by decide) ?_
        refine q_iret ja_C_isBill_26 rfl (by decide) ?_
        show q_W _ _ _ _ 5 [some (.ref 0), some (.int a1), some (.int a2)] [.int 0] s
        refine q_if_ne (pc' := 8) ja_C_word_5 rfl (fun h => absurd ((by decide : (0 : Int32) = 0)) h) (fun _ => ?_)
        refine q_bipush (pc' := 10) ja_C_word_8 rfl (-2) (by decide) ?_
        exact q_iret ja_C_word_10 rfl rfl (k3 h2 h4 h5)
      · intro h6
        refine q_iconst (pc' := 22) ja_C_isBill_21 rfl 1 (by decide) ?_
        refine q_goto ja_C_isBill_22 ?_
        refine q_iret ja_C_isBill_26 rfl (by decide) ?_
        show q_W _ _ _ _ 5 [some (.ref 0), some (.int a1), some (.int a2)] [.int 1] s
        refine q_if_ne (pc' := 8) ja_C_word_5 rfl (fun _ => ?_) (fun h => absurd h ((by decide : ¬ (1 : Int32) = 0)))
        refine q_aload_n (pc' := 12) ja_C_word_11 rfl rfl ?_
        refine q_getf (pc' := 15) (v := .ref 32) ja_C_word_12 rfl (by decide) ⟨rfl, by decide⟩ rfl ?_
        refine q_iload_n (pc' := 16) ja_C_word_15 rfl rfl ?_
        refine q_aald (pc' := 17) (v := .ref (33 + 3 * a1.toNatClampNeg)) ja_C_word_16 rfl (by decide) (kd := 17) (l := 8) rfl (by decide) (q_inr (l := 8) (by decide) h2 h6) (f_A32 (f_in (q_inr (l := 8) (by decide) h2 h6))) ?_
        refine q_getf (pc' := 20) (v := .ref ((33 + 3 * a1.toNatClampNeg) + 1)) ja_C_word_17 rfl (f_1_c (f_m32 (f_in (q_inr (l := 8) (by decide) h2 h6)))) ⟨by rw [f_1_k (f_m32 (f_in (q_inr (l := 8) (by decide) h2 h6)))], by decide⟩ (f_1_g2 (f_m32 (f_in (q_inr (l := 8) (by decide) h2 h6)))) ?_
        refine q_iload_n (pc' := 21) ja_C_word_20 rfl rfl ?_
        refine q_virt (pc' := 24) (c := ((33 + 3 * a1.toNatClampNeg) + 1)) (as := [.int a2]) (r := []) ja_C_word_21 rfl rfl rfl (f_8_c (f_1_s2 (f_m32 (f_in (q_inr (l := 8) (by decide) h2 h6))))) ⟨by rw [f_8_k (f_1_s2 (f_m32 (f_in (q_inr (l := 8) (by decide) h2 h6))))], by decide⟩ ?_
        refine q_in (M := jm_Sections_wordAt) rfl (Nat.le_of_ble_eq_true rfl) (ls := [some (.ref ((33 + 3 * a1.toNatClampNeg) + 1)), some (.int a2)]) rfl ?_
        refine q_iload_n (pc' := 1) ja_Sections_wordAt_0 rfl rfl ?_
        refine q_if_lt (pc' := 4) ja_Sections_wordAt_1 rfl ?_ ?_
        · intro h7
          refine q_iconst (pc' := 31) ja_Sections_wordAt_30 rfl (-1) (by decide) ?_
          refine q_iret ja_Sections_wordAt_31 rfl rfl ?_
          show q_W _ _ _ _ 24 [some (.ref 0), some (.int a1), some (.int a2)] [.int (-1)] s
          exact q_iret ja_C_word_24 rfl rfl (k4 h2 h4 h6 h7)
        · intro h8
          refine q_iload_n (pc' := 5) ja_Sections_wordAt_4 rfl rfl ?_
          refine q_aload_n (pc' := 6) ja_Sections_wordAt_5 rfl rfl ?_
          refine q_getf (pc' := 9) (v := .int (s ((33 + 3 * a1.toNatClampNeg) + 1) 0)) ja_Sections_wordAt_6 rfl (f_8_c (f_1_s2 (f_m32 (f_in (q_inr (l := 8) (by decide) h2 h6))))) ⟨by rw [f_8_k (f_1_s2 (f_m32 (f_in (q_inr (l := 8) (by decide) h2 h6))))], by decide⟩ (f_i (f_8_k (f_1_s2 (f_m32 (f_in (q_inr (l := 8) (by decide) h2 h6))))) rfl) ?_
          refine q_ic_ge (pc' := 12) ja_Sections_wordAt_9 rfl ?_ ?_
          · intro h9
            refine q_iconst (pc' := 31) ja_Sections_wordAt_30 rfl (-1) (by decide) ?_
            refine q_iret ja_Sections_wordAt_31 rfl rfl ?_
            show q_W _ _ _ _ 24 [some (.ref 0), some (.int a1), some (.int a2)] [.int (-1)] s
            exact q_iret ja_C_word_24 rfl rfl (k5 h2 h4 h6 h8 h9)
          · intro h10
            refine q_iload_n (pc' := 13) ja_Sections_wordAt_12 rfl rfl ?_
            refine q_aload_n (pc' := 14) ja_Sections_wordAt_13 rfl rfl ?_
            refine q_getf (pc' := 17) (v := .ref (((33 + 3 * a1.toNatClampNeg) + 1) + 1)) ja_Sections_wordAt_14 rfl (f_8_c (f_1_s2 (f_m32 (f_in (q_inr (l := 8) (by decide) h2 h6))))) ⟨by rw [f_8_k (f_1_s2 (f_m32 (f_in (q_inr (l := 8) (by decide) h2 h6))))], by decide⟩ (f_8_g1 (f_1_s2 (f_m32 (f_in (q_inr (l := 8) (by decide) h2 h6))))) ?_
            refine q_alen (pc' := 18) ja_Sections_wordAt_17 rfl (f_a_c (f_8_s1 (f_1_s2 (f_m32 (f_in (q_inr (l := 8) (by decide) h2 h6)))))) (kd := 13) (l := 10) (f_a_k (f_8_s1 (f_1_s2 (f_m32 (f_in (q_inr (l := 8) (by decide) h2 h6)))))) (by decide) (v := 10) (by decide) ?_
            refine q_ic_ge (pc' := 21) ja_Sections_wordAt_18 rfl ?_ ?_
            · intro h11
              refine q_iconst (pc' := 31) ja_Sections_wordAt_30 rfl (-1) (by decide) ?_
              refine q_iret ja_Sections_wordAt_31 rfl rfl ?_
              show q_W _ _ _ _ 24 [some (.ref 0), some (.int a1), some (.int a2)] [.int (-1)] s
              exact q_iret ja_C_word_24 rfl rfl (k6 h2 h4 h6 h8 h10 h11)
            · intro h12
              refine q_aload_n (pc' := 22) ja_Sections_wordAt_21 rfl rfl ?_
              refine q_getf (pc' := 25) (v := .ref (((33 + 3 * a1.toNatClampNeg) + 1) + 1)) ja_Sections_wordAt_22 rfl (f_8_c (f_1_s2 (f_m32 (f_in (q_inr (l := 8) (by decide) h2 h6))))) ⟨by rw [f_8_k (f_1_s2 (f_m32 (f_in (q_inr (l := 8) (by decide) h2 h6))))], by decide⟩ (f_8_g1 (f_1_s2 (f_m32 (f_in (q_inr (l := 8) (by decide) h2 h6))))) ?_
              refine q_iload_n (pc' := 26) ja_Sections_wordAt_25 rfl rfl ?_
              refine q_iald (pc' := 27) (v := .int (s (((33 + 3 * a1.toNatClampNeg) + 1) + 1) a2.toNatClampNeg)) ja_Sections_wordAt_26 rfl (f_a_c (f_8_s1 (f_1_s2 (f_m32 (f_in (q_inr (l := 8) (by decide) h2 h6)))))) (l := 10) (f_a_k (f_8_s1 (f_1_s2 (f_m32 (f_in (q_inr (l := 8) (by decide) h2 h6)))))) (q_inr (l := 10) (by decide) h8 h12) (f_i (f_a_k (f_8_s1 (f_1_s2 (f_m32 (f_in (q_inr (l := 8) (by decide) h2 h6)))))) rfl) ?_
              refine q_goto ja_Sections_wordAt_27 ?_
              refine q_iret ja_Sections_wordAt_31 rfl rfl ?_
              show q_W _ _ _ _ 24 [some (.ref 0), some (.int a1), some (.int a2)] [.int (s (((33 + 3 * a1.toNatClampNeg) + 1) + 1) a2.toNatClampNeg)] s
              exact q_iret ja_C_word_24 rfl rfl (k7 h2 h4 h6 h8 h10 h12)
set_option maxRecDepth 20000 in
theorem t_C_worth {G : jv_X} {d : Nat} {B : Option Value → jg_H → Prop} {s : jg_H} (a1 : Int32) (a2 : Int32)
    (k1 : a1 < 0 → B (some (.long (-4611686018427387904))) s)
    (k2 : ¬ a1 < 0 → ¬ a1 < (s 0 3) → B (some (.long (-4611686018427387904))) s)
    (k3 : ¬ a1 < 0 → a1 < (s 0 3) → ¬ a1 < 8 → B (some (.long (-4611686018427387904))) s)
    (k4 : ¬ a1 < 0 → a1 < (s 0 3) → a1 < 8 → a2 < 0 → B (some (.long (-4611686018427387904))) s)
    (k5 : ¬ a1 < 0 → a1 < (s 0 3) → a1 < 8 → ¬ a2 < 0 → ¬ a2 < (s 0 1) → B (some (.long (-4611686018427387904))) s)
    (k6 : ¬ a1 < 0 → a1 < (s 0 3) → a1 < 8 → ¬ a2 < 0 → a2 < (s 0 1) → ¬ a2 < 15 → B (some (.long (-4611686018427387904))) s)
    (k7 : ¬ a1 < 0 → a1 < (s 0 3) → a1 < 8 → ¬ a2 < 0 → a2 < (s 0 1) → a2 < 15 → q_P G (d + 1) 64 [.ref ((33 + 3 * a1.toNatClampNeg) + 1), .ref (2 + 2 * a2.toNatClampNeg)] s (fun v t => q_W G (d + 1) jm_C_worth B 38 [some (.ref 0), some (.int a1), some (.int a2)] (v.toList ++ []) t)) :
    q_P G (d + 2) 63 [.ref 0, .int a1, .int a2] s B := by
  refine q_in (M := jm_C_worth) rfl (Nat.le_of_ble_eq_true rfl) (ls := [some (.ref 0), some (.int a1), some (.int a2)]) rfl ?_
  refine q_aload_n (pc' := 1) ja_C_worth_0 rfl rfl ?_
  refine q_iload_n (pc' := 2) ja_C_worth_1 rfl rfl ?_
  refine q_virt (pc' := 5) (c := 0) (as := [.int a1]) (r := []) ja_C_worth_2 rfl rfl rfl (by decide) ⟨rfl, by decide⟩ ?_
  refine q_in (M := jm_C_isBill) rfl (Nat.le_of_ble_eq_true rfl) (ls := [some (.ref 0), some (.int a1)]) rfl ?_
  refine q_iload_n (pc' := 1) ja_C_isBill_0 rfl rfl ?_
  refine q_if_lt (pc' := 4) ja_C_isBill_1 rfl ?_ ?_
  · intro h1
    refine q_iconst (pc' := 26) ja_C_isBill_25 rfl 0 (by decide) ?_
    refine q_iret ja_C_isBill_26 rfl (by decide) ?_
    show q_W _ _ _ _ 5 [some (.ref 0), some (.int a1), some (.int a2)] [.int 0] s
    refine q_if_eq (pc' := 8) ja_C_worth_5 rfl (fun _ => ?_) (fun h => absurd ((by decide : (0 : Int32) = 0)) h)
    refine q_ldc2 (pc' := 19) ja_C_worth_16 rfl (-4611686018427387904) (by decide) ?_
    exact q_lret ja_C_worth_19 rfl (k1 h1)
  · intro h2
    refine q_iload_n (pc' := 5) ja_C_isBill_4 rfl rfl ?_
    refine q_aload_n (pc' := 6) ja_C_isBill_5 rfl rfl ?_
    refine q_getf (pc' := 9) (v := .int (s 0 3)) ja_C_isBill_6 rfl (by decide) ⟨rfl, by decide⟩ rfl ?_
    refine q_ic_ge (pc' := 12) ja_C_isBill_9 rfl ?_ ?_
    · intro h3
      refine q_iconst (pc' := 26) ja_C_isBill_25 rfl 0 (by decide) ?_
      refine q_iret ja_C_isBill_26 rfl (by decide) ?_
      show q_W _ _ _ _ 5 [some (.ref 0), some (.int a1), some (.int a2)] [.int 0] s
      refine q_if_eq (pc' := 8) ja_C_worth_5 rfl (fun _ => ?_) (fun h => absurd ((by decide : (0 : Int32) = 0)) h)
      refine q_ldc2 (pc' := 19) ja_C_worth_16 rfl (-4611686018427387904) (by decide) ?_
      exact q_lret ja_C_worth_19 rfl (k2 h2 h3)
    · intro h4
      refine q_iload_n (pc' := 13) ja_C_isBill_12 rfl rfl ?_
      refine q_aload_n (pc' := 14) ja_C_isBill_13 rfl rfl ?_
      refine q_getf (pc' := 17) (v := .ref 32) ja_C_isBill_14 rfl (by decide) ⟨rfl, by decide⟩ rfl ?_
      refine q_alen (pc' := 18) ja_C_isBill_17 rfl (by decide) (kd := 17) (l := 8) rfl (by decide) (v := 8) (by decide) ?_
      refine q_ic_ge (pc' := 21) ja_C_isBill_18 rfl ?_ ?_
      · intro h5
        refine q_iconst (pc' := 26) ja_C_isBill_25 rfl 0 (by decide) ?_
        refine q_iret ja_C_isBill_26 rfl (by decide) ?_
        show q_W _ _ _ _ 5 [some (.ref 0), some (.int a1), some (.int a2)] [.int 0] s
        refine q_if_eq (pc' := 8) ja_C_worth_5 rfl (fun _ => ?_) (fun h => absurd ((by decide : (0 : Int32) = 0)) h)
        refine q_ldc2 (pc' := 19) ja_C_worth_16 rfl (-4611686018427387904) (by decide) ?_
        exact q_lret ja_C_worth_19 rfl (k3 h2 h4 h5)
      · intro h6
        refine q_iconst (pc' := 22) ja_C_isBill_21 rfl 1 (by decide) ?_
        refine q_goto ja_C_isBill_22 ?_
        refine q_iret ja_C_isBill_26 rfl (by decide) ?_
        show q_W _ _ _ _ 5 [some (.ref 0), some (.int a1), some (.int a2)] [.int 1] s
        refine q_if_eq (pc' := 8) ja_C_worth_5 rfl (fun h => absurd h ((by decide : ¬ (1 : Int32) = 0))) (fun _ => ?_)
        refine q_aload_n (pc' := 9) ja_C_worth_8 rfl rfl ?_
        refine q_iload_n (pc' := 10) ja_C_worth_9 rfl rfl ?_
        refine q_virt (pc' := 13) (c := 0) (as := [.int a2]) (r := []) ja_C_worth_10 rfl rfl rfl (by decide) ⟨rfl, by decide⟩ ?_
        refine q_in (M := jm_C_isMember) rfl (Nat.le_of_ble_eq_true rfl) (ls := [some (.ref 0), some (.int a2)]) rfl ?_
        refine q_iload_n (pc' := 1) ja_C_isMember_0 rfl rfl ?_
        refine q_if_lt (pc' := 4) ja_C_isMember_1 rfl ?_ ?_
        · intro h7
          refine q_iconst (pc' := 26) ja_C_isMember_25 rfl 0 (by decide) ?_
          refine q_iret ja_C_isMember_26 rfl (by decide) ?_
          show q_W _ _ _ _ 13 [some (.ref 0), some (.int a1), some (.int a2)] [.int 0] s
          refine q_if_ne (pc' := 16) ja_C_worth_13 rfl (fun h => absurd ((by decide : (0 : Int32) = 0)) h) (fun _ => ?_)
          refine q_ldc2 (pc' := 19) ja_C_worth_16 rfl (-4611686018427387904) (by decide) ?_
          exact q_lret ja_C_worth_19 rfl (k4 h2 h4 h6 h7)
        · intro h8
          refine q_iload_n (pc' := 5) ja_C_isMember_4 rfl rfl ?_
          refine q_aload_n (pc' := 6) ja_C_isMember_5 rfl rfl ?_
          refine q_getf (pc' := 9) (v := .int (s 0 1)) ja_C_isMember_6 rfl (by decide) ⟨rfl, by decide⟩ rfl ?_
          refine q_ic_ge (pc' := 12) ja_C_isMember_9 rfl ?_ ?_
          · intro h9
            refine q_iconst (pc' := 26) ja_C_isMember_25 rfl 0 (by decide) ?_
            refine q_iret ja_C_isMember_26 rfl (by decide) ?_
            show q_W _ _ _ _ 13 [some (.ref 0), some (.int a1), some (.int a2)] [.int 0] s
            refine q_if_ne (pc' := 16) ja_C_worth_13 rfl (fun h => absurd ((by decide : (0 : Int32) = 0)) h) (fun _ => ?_)
            refine q_ldc2 (pc' := 19) ja_C_worth_16 rfl (-4611686018427387904) (by decide) ?_
            exact q_lret ja_C_worth_19 rfl (k5 h2 h4 h6 h8 h9)
          · intro h10
            refine q_iload_n (pc' := 13) ja_C_isMember_12 rfl rfl ?_
            refine q_aload_n (pc' := 14) ja_C_isMember_13 rfl rfl ?_
            refine q_getf (pc' := 17) (v := .ref 1) ja_C_isMember_14 rfl (by decide) ⟨rfl, by decide⟩ rfl ?_
            refine q_alen (pc' := 18) ja_C_isMember_17 rfl (by decide) (kd := 16) (l := 15) rfl (by decide) (v := 15) (by decide) ?_
            refine q_ic_ge (pc' := 21) ja_C_isMember_18 rfl ?_ ?_
            · intro h11
              refine q_iconst (pc' := 26) ja_C_isMember_25 rfl 0 (by decide) ?_
              refine q_iret ja_C_isMember_26 rfl (by decide) ?_
              show q_W _ _ _ _ 13 [some (.ref 0), some (.int a1), some (.int a2)] [.int 0] s
              refine q_if_ne (pc' := 16) ja_C_worth_13 rfl (fun h => absurd ((by decide : (0 : Int32) = 0)) h) (fun _ => ?_)
              refine q_ldc2 (pc' := 19) ja_C_worth_16 rfl (-4611686018427387904) (by decide) ?_
              exact q_lret ja_C_worth_19 rfl (k6 h2 h4 h6 h8 h10 h11)
            · intro h12
              refine q_iconst (pc' := 22) ja_C_isMember_21 rfl 1 (by decide) ?_
              refine q_goto ja_C_isMember_22 ?_
              refine q_iret ja_C_isMember_26 rfl (by decide) ?_
              show q_W _ _ _ _ 13 [some (.ref 0), some (.int a1), some (.int a2)] [.int 1] s
              refine q_if_ne (pc' := 16) ja_C_worth_13 rfl (fun _ => ?_) (fun h => absurd h ((by decide : ¬ (1 : Int32) = 0)))
              refine q_aload_n (pc' := 21) ja_C_worth_20 rfl rfl ?_
              refine q_getf (pc' := 24) (v := .ref 32) ja_C_worth_21 rfl (by decide) ⟨rfl, by decide⟩ rfl ?_
              refine q_iload_n (pc' := 25) ja_C_worth_24 rfl rfl ?_
              refine q_aald (pc' := 26) (v := .ref (33 + 3 * a1.toNatClampNeg)) ja_C_worth_25 rfl (by decide) (kd := 17) (l := 8) rfl (by decide) (q_inr (l := 8) (by decide) h2 h6) (f_A32 (f_in (q_inr (l := 8) (by decide) h2 h6))) ?_
              refine q_getf (pc' := 29) (v := .ref ((33 + 3 * a1.toNatClampNeg) + 1)) ja_C_worth_26 rfl (f_1_c (f_m32 (f_in (q_inr (l := 8) (by decide) h2 h6)))) ⟨by rw [f_1_k (f_m32 (f_in (q_inr (l := 8) (by decide) h2 h6)))], by decide⟩ (f_1_g2 (f_m32 (f_in (q_inr (l := 8) (by decide) h2 h6)))) ?_
              refine q_aload_n (pc' := 30) ja_C_worth_29 rfl rfl ?_
              refine q_getf (pc' := 33) (v := .ref 1) ja_C_worth_30 rfl (by decide) ⟨rfl, by decide⟩ rfl ?_
              refine q_iload_n (pc' := 34) ja_C_worth_33 rfl rfl ?_
              refine q_aald (pc' := 35) (v := .ref (2 + 2 * a2.toNatClampNeg)) ja_C_worth_34 rfl (by decide) (kd := 16) (l := 15) rfl (by decide) (q_inr (l := 15) (by decide) h8 h12) (f_A1 (f_in (q_inr (l := 15) (by decide) h8 h12))) ?_
              refine q_virt (pc' := 38) (c := ((33 + 3 * a1.toNatClampNeg) + 1)) (as := [.ref (2 + 2 * a2.toNatClampNeg)]) (r := []) ja_C_worth_35 rfl rfl rfl (f_8_c (f_1_s2 (f_m32 (f_in (q_inr (l := 8) (by decide) h2 h6))))) ⟨by rw [f_8_k (f_1_s2 (f_m32 (f_in (q_inr (l := 8) (by decide) h2 h6))))], by decide⟩ ?_
              exact (k7 h2 h4 h6 h8 h10 h12)
set_option maxRecDepth 20000 in
theorem t_C_worth_38 {G : jv_X} {d : Nat} {B : Option Value → jg_H → Prop} {s : jg_H} (x1 : Int32) (x2 : Int32) (y0 : Int32)
    (k1 : B (some (.long (y0).toInt64)) s) :
    q_W G (d + 1) jm_C_worth B 38 [some (.ref 0), some (.int x1), some (.int x2)] [.int y0] s := by
  refine q_i2l (pc' := 39) ja_C_worth_38 rfl ?_
  exact q_lret ja_C_worth_39 rfl k1
set_option maxRecDepth 20000 in
theorem t_C_would {G : jv_X} {d : Nat} {B : Option Value → jg_H → Prop} {s : jg_H} (a1 : Int32)
    (k1 : a1 < 0 → B (some (.int (-2))) s)
    (k2 : ¬ a1 < 0 → ¬ a1 < (s 0 1) → B (some (.int (-2))) s)
    (k3 : ¬ a1 < 0 → a1 < (s 0 1) → ¬ a1 < 15 → B (some (.int (-2))) s)
    (k4 : ¬ a1 < 0 → a1 < (s 0 1) → a1 < 15 → ((s 60 0) - 1) < 0 → B (some (.int (-1))) s)
    (k5 : ¬ a1 < 0 → a1 < (s 0 1) → a1 < 15 → ¬ ((s 60 0) - 1) < 0 → ¬ ((s 60 0) - 1) < (s 60 0) → B (some (.int (-1))) s)
    (k6 : ¬ a1 < 0 → a1 < (s 0 1) → a1 < 15 → ¬ ((s 60 0) - 1) < 0 → ((s 60 0) - 1) < (s 60 0) → ¬ ((s 60 0) - 1) < (s 60 1) → B (some (.int (-1))) s)
    (k7 : ¬ a1 < 0 → a1 < (s 0 1) → a1 < 15 → ¬ ((s 60 0) - 1) < 0 → ((s 60 0) - 1) < (s 60 0) → ((s 60 0) - 1) < (s 60 1) → (s 0 6) < 0 → jv_in ((s 60 0) - 1) 8 = true)
    (k8 : ¬ a1 < 0 → a1 < (s 0 1) → a1 < 15 → ¬ ((s 60 0) - 1) < 0 → ((s 60 0) - 1) < (s 60 0) → ((s 60 0) - 1) < (s 60 1) → (s 0 6) < 0 → q_P G (d + 2) 94 [.ref 0, .ref (2 + 2 * a1.toNatClampNeg), .ref 58, .ref 60, .int ((s 60 0) - 1), .int (s 63 ((s 60 0) - 1).toNatClampNeg)] s (fun v t => q_W G (d + 2) jm_C_would B 62 [some (.ref 0), some (.int a1), some (.int ((s 60 0) - 1))] (v.toList ++ []) t))
    (k9 : ¬ a1 < 0 → a1 < (s 0 1) → a1 < 15 → ¬ ((s 60 0) - 1) < 0 → ((s 60 0) - 1) < (s 60 0) → ((s 60 0) - 1) < (s 60 1) → ¬ (s 0 6) < 0 → ¬ (s 0 6) < (s 0 3) → jv_in ((s 60 0) - 1) 8 = true)
    (k10 : ¬ a1 < 0 → a1 < (s 0 1) → a1 < 15 → ¬ ((s 60 0) - 1) < 0 → ((s 60 0) - 1) < (s 60 0) → ((s 60 0) - 1) < (s 60 1) → ¬ (s 0 6) < 0 → ¬ (s 0 6) < (s 0 3) → q_P G (d + 2) 94 [.ref 0, .ref (2 + 2 * a1.toNatClampNeg), .ref 58, .ref 60, .int ((s 60 0) - 1), .int (s 63 ((s 60 0) - 1).toNatClampNeg)] s (fun v t => q_W G (d + 2) jm_C_would B 62 [some (.ref 0), some (.int a1), some (.int ((s 60 0) - 1))] (v.toList ++ []) t))
    (k11 : ¬ a1 < 0 → a1 < (s 0 1) → a1 < 15 → ¬ ((s 60 0) - 1) < 0 → ((s 60 0) - 1) < (s 60 0) → ((s 60 0) - 1) < (s 60 1) → ¬ (s 0 6) < 0 → (s 0 6) < (s 0 3) → ¬ (s 0 6) < 8 → jv_in ((s 60 0) - 1) 8 = true)
    (k12 : ¬ a1 < 0 → a1 < (s 0 1) → a1 < 15 → ¬ ((s 60 0) - 1) < 0 → ((s 60 0) - 1) < (s 60 0) → ((s 60 0) - 1) < (s 60 1) → ¬ (s 0 6) < 0 → (s 0 6) < (s 0 3) → ¬ (s 0 6) < 8 → q_P G (d + 2) 94 [.ref 0, .ref (2 + 2 * a1.toNatClampNeg), .ref 58, .ref 60, .int ((s 60 0) - 1), .int (s 63 ((s 60 0) - 1).toNatClampNeg)] s (fun v t => q_W G (d + 2) jm_C_would B 62 [some (.ref 0), some (.int a1), some (.int ((s 60 0) - 1))] (v.toList ++ []) t))
    (k13 : ¬ a1 < 0 → a1 < (s 0 1) → a1 < 15 → ¬ ((s 60 0) - 1) < 0 → ((s 60 0) - 1) < (s 60 0) → ((s 60 0) - 1) < (s 60 1) → ¬ (s 0 6) < 0 → (s 0 6) < (s 0 3) → (s 0 6) < 8 → jv_in ((s 60 0) - 1) 8 = true)
    (k14 : ¬ a1 < 0 → a1 < (s 0 1) → a1 < 15 → ¬ ((s 60 0) - 1) < 0 → ((s 60 0) - 1) < (s 60 0) → ((s 60 0) - 1) < (s 60 1) → ¬ (s 0 6) < 0 → (s 0 6) < (s 0 3) → (s 0 6) < 8 → q_P G (d + 2) 94 [.ref 0, .ref (2 + 2 * a1.toNatClampNeg), .ref ((33 + 3 * (s 0 6).toNatClampNeg) + 1), .ref 60, .int ((s 60 0) - 1), .int (s 63 ((s 60 0) - 1).toNatClampNeg)] s (fun v t => q_W G (d + 2) jm_C_would B 62 [some (.ref 0), some (.int a1), some (.int ((s 60 0) - 1))] (v.toList ++ []) t)) :
    q_P G (d + 3) 102 [.ref 0, .int a1] s B := by
  refine q_in (M := jm_C_would) rfl (Nat.le_of_ble_eq_true rfl) (ls := [some (.ref 0), some (.int a1), none]) rfl ?_
  refine q_aload_n (pc' := 1) ja_C_would_0 rfl rfl ?_
  refine q_iload_n (pc' := 2) ja_C_would_1 rfl rfl ?_
  refine q_virt (pc' := 5) (c := 0) (as := [.int a1]) (r := []) ja_C_would_2 rfl rfl rfl (by decide) ⟨rfl, by decide⟩ ?_
  refine q_in (M := jm_C_isMember) rfl (Nat.le_of_ble_eq_true rfl) (ls := [some (.ref 0), some (.int a1)]) rfl ?_
  refine q_iload_n (pc' := 1) ja_C_isMember_0 rfl rfl ?_
  refine q_if_lt (pc' := 4) ja_C_isMember_1 rfl ?_ ?_
  · intro h1
    refine q_iconst (pc' := 26) ja_C_isMember_25 rfl 0 (by decide) ?_
    refine q_iret ja_C_isMember_26 rfl (by decide) ?_
    show q_W _ _ _ _ 5 [some (.ref 0), some (.int a1), none] [.int 0] s
    refine q_if_ne (pc' := 8) ja_C_would_5 rfl (fun h => absurd ((by decide : (0 : Int32) = 0)) h) (fun _ => ?_)
    refine q_bipush (pc' := 10) ja_C_would_8 rfl (-2) (by decide) ?_
    exact q_iret ja_C_would_10 rfl rfl (k1 h1)
  · intro h2
    refine q_iload_n (pc' := 5) ja_C_isMember_4 rfl rfl ?_
    refine q_aload_n (pc' := 6) ja_C_isMember_5 rfl rfl ?_
    refine q_getf (pc' := 9) (v := .int (s 0 1)) ja_C_isMember_6 rfl (by decide) ⟨rfl, by decide⟩ rfl ?_
    refine q_ic_ge (pc' := 12) ja_C_isMember_9 rfl ?_ ?_
    · intro h3
      refine q_iconst (pc' := 26) ja_C_isMember_25 rfl 0 (by decide) ?_
      refine q_iret ja_C_isMember_26 rfl (by decide) ?_
      show q_W _ _ _ _ 5 [some (.ref 0), some (.int a1), none] [.int 0] s
      refine q_if_ne (pc' := 8) ja_C_would_5 rfl (fun h => absurd ((by decide : (0 : Int32) = 0)) h) (fun _ => ?_)
      refine q_bipush (pc' := 10) ja_C_would_8 rfl (-2) (by decide) ?_
      exact q_iret ja_C_would_10 rfl rfl (k2 h2 h3)
    · intro h4
      refine q_iload_n (pc' := 13) ja_C_isMember_12 rfl rfl ?_
      refine q_aload_n (pc' := 14) ja_C_isMember_13 rfl rfl ?_
      refine q_getf (pc' := 17) (v := .ref 1) ja_C_isMember_14 rfl (by decide) ⟨rfl, by decide⟩ rfl ?_
      refine q_alen (pc' := 18) ja_C_isMember_17 rfl (by decide) (kd := 16) (l := 15) rfl (by decide) (v := 15) (by decide) ?_
      refine q_ic_ge (pc' := 21) ja_C_isMember_18 rfl ?_ ?_
      · intro h5
        refine q_iconst (pc' := 26) ja_C_isMember_25 rfl 0 (by decide) ?_
        refine q_iret ja_C_isMember_26 rfl (by decide) ?_
        show q_W _ _ _ _ 5 [some (.ref 0), some (.int a1), none] [.int 0] s
        refine q_if_ne (pc' := 8) ja_C_would_5 rfl (fun h => absurd ((by decide : (0 : Int32) = 0)) h) (fun _ => ?_)
        refine q_bipush (pc' := 10) ja_C_would_8 rfl (-2) (by decide) ?_
        exact q_iret ja_C_would_10 rfl rfl (k3 h2 h4 h5)
      · intro h6
        refine q_iconst (pc' := 22) ja_C_isMember_21 rfl 1 (by decide) ?_
        refine q_goto ja_C_isMember_22 ?_
        refine q_iret ja_C_isMember_26 rfl (by decide) ?_
        show q_W _ _ _ _ 5 [some (.ref 0), some (.int a1), none] [.int 1] s
        refine q_if_ne (pc' := 8) ja_C_would_5 rfl (fun _ => ?_) (fun h => absurd h ((by decide : ¬ (1 : Int32) = 0)))
        refine q_aload_n (pc' := 12) ja_C_would_11 rfl rfl ?_
        refine q_getf (pc' := 15) (v := .ref 60) ja_C_would_12 rfl (by decide) ⟨rfl, by decide⟩ rfl ?_
        refine q_getf (pc' := 18) (v := .int (s 60 0)) ja_C_would_15 rfl (by decide) ⟨rfl, by decide⟩ rfl ?_
        refine q_iconst (pc' := 19) ja_C_would_18 rfl 1 (by decide) ?_
        refine q_isub (pc' := 20) ja_C_would_19 rfl ?_
        refine q_istore_n (pc' := 21) (ls' := [some (.ref 0), some (.int a1), some (.int ((s 60 0) - 1))]) ja_C_would_20 rfl ⟨Nat.le_of_ble_eq_true rfl, rfl⟩ rfl ?_
        refine q_aload_n (pc' := 22) ja_C_would_21 rfl rfl ?_
        refine q_getf (pc' := 25) (v := .ref 60) ja_C_would_22 rfl (by decide) ⟨rfl, by decide⟩ rfl ?_
        refine q_iload_n (pc' := 26) ja_C_would_25 rfl rfl ?_
        refine q_virt (pc' := 29) (c := 60) (as := [.int ((s 60 0) - 1)]) (r := []) ja_C_would_26 rfl rfl rfl (by decide) ⟨rfl, by decide⟩ ?_
        refine q_in (M := jm_Motions_has) rfl (Nat.le_of_ble_eq_true rfl) (ls := [some (.ref 60), some (.int ((s 60 0) - 1))]) rfl ?_
        refine q_iload_n (pc' := 1) ja_Motions_has_0 rfl rfl ?_
        refine q_if_lt (pc' := 4) ja_Motions_has_1 rfl ?_ ?_
        · intro h7
          refine q_iconst (pc' := 25) ja_Motions_has_24 rfl 0 (by decide) ?_
          refine q_iret ja_Motions_has_25 rfl (by decide) ?_
          show q_W _ _ _ _ 29 [some (.ref 0), some (.int a1), some (.int ((s 60 0) - 1))] [.int 0] s
          refine q_if_ne (pc' := 32) ja_C_would_29 rfl (fun h => absurd ((by decide : (0 : Int32) = 0)) h) (fun _ => ?_)
          refine q_iconst (pc' := 33) ja_C_would_32 rfl (-1) (by decide) ?_
          exact q_iret ja_C_would_33 rfl rfl (k4 h2 h4 h6 h7)
        · intro h8
          refine q_iload_n (pc' := 5) ja_Motions_has_4 rfl rfl ?_
          refine q_aload_n (pc' := 6) ja_Motions_has_5 rfl rfl ?_
          refine q_getf (pc' := 9) (v := .int (s 60 0)) ja_Motions_has_6 rfl (by decide) ⟨rfl, by decide⟩ rfl ?_
          refine q_ic_ge (pc' := 12) ja_Motions_has_9 rfl ?_ ?_
          · intro h9
            refine q_iconst (pc' := 25) ja_Motions_has_24 rfl 0 (by decide) ?_
            refine q_iret ja_Motions_has_25 rfl (by decide) ?_
            show q_W _ _ _ _ 29 [some (.ref 0), some (.int a1), some (.int ((s 60 0) - 1))] [.int 0] s
            refine q_if_ne (pc' := 32) ja_C_would_29 rfl (fun h => absurd ((by decide : (0 : Int32) = 0)) h) (fun _ => ?_)
            refine q_iconst (pc' := 33) ja_C_would_32 rfl (-1) (by decide) ?_
            exact q_iret ja_C_would_33 rfl rfl (k5 h2 h4 h6 h8 h9)
          · intro h10
            refine q_iload_n (pc' := 13) ja_Motions_has_12 rfl rfl ?_
            refine q_aload_n (pc' := 14) ja_Motions_has_13 rfl rfl ?_
            refine q_getf (pc' := 17) (v := .int (s 60 1)) ja_Motions_has_14 rfl (by decide) ⟨rfl, by decide⟩ rfl ?_
            refine q_ic_ge (pc' := 20) ja_Motions_has_17 rfl ?_ ?_
            · intro h11
              refine q_iconst (pc' := 25) ja_Motions_has_24 rfl 0 (by decide) ?_
              refine q_iret ja_Motions_has_25 rfl (by decide) ?_
              show q_W _ _ _ _ 29 [some (.ref 0), some (.int a1), some (.int ((s 60 0) - 1))] [.int 0] s
              refine q_if_ne (pc' := 32) ja_C_would_29 rfl (fun h => absurd ((by decide : (0 : Int32) = 0)) h) (fun _ => ?_)
              refine q_iconst (pc' := 33) ja_C_would_32 rfl (-1) (by decide) ?_
              exact q_iret ja_C_would_33 rfl rfl (k6 h2 h4 h6 h8 h10 h11)
            · intro h12
              refine q_iconst (pc' := 21) ja_Motions_has_20 rfl 1 (by decide) ?_
              refine q_goto ja_Motions_has_21 ?_
              refine q_iret ja_Motions_has_25 rfl (by decide) ?_
              show q_W _ _ _ _ 29 [some (.ref 0), some (.int a1), some (.int ((s 60 0) - 1))] [.int 1] s
              refine q_if_ne (pc' := 32) ja_C_would_29 rfl (fun _ => ?_) (fun h => absurd h ((by decide : ¬ (1 : Int32) = 0)))
              refine q_aload_n (pc' := 35) ja_C_would_34 rfl rfl ?_
              refine q_aload_n (pc' := 36) ja_C_would_35 rfl rfl ?_
              refine q_getf (pc' := 39) (v := .ref 1) ja_C_would_36 rfl (by decide) ⟨rfl, by decide⟩ rfl ?_
              refine q_iload_n (pc' := 40) ja_C_would_39 rfl rfl ?_
              refine q_aald (pc' := 41) (v := .ref (2 + 2 * a1.toNatClampNeg)) ja_C_would_40 rfl (by decide) (kd := 16) (l := 15) rfl (by decide) (q_inr (l := 15) (by decide) h2 h6) (f_A1 (f_in (q_inr (l := 15) (by decide) h2 h6))) ?_
              refine q_aload_n (pc' := 42) ja_C_would_41 rfl rfl ?_
              refine q_virt (pc' := 45) (c := 0) (as := []) (r := [.ref (2 + 2 * a1.toNatClampNeg), .ref 0]) ja_C_would_42 rfl rfl rfl (by decide) ⟨rfl, by decide⟩ ?_
              refine q_in (M := jm_C_floor) rfl (Nat.le_of_ble_eq_true rfl) (ls := [some (.ref 0)]) rfl ?_
              refine q_aload_n (pc' := 1) ja_C_floor_0 rfl rfl ?_
              refine q_aload_n (pc' := 2) ja_C_floor_1 rfl rfl ?_
              refine q_getf (pc' := 5) (v := .int (s 0 6)) ja_C_floor_2 rfl (by decide) ⟨rfl, by decide⟩ rfl ?_
              refine q_virt (pc' := 8) (c := 0) (as := [.int (s 0 6)]) (r := []) ja_C_floor_5 rfl rfl rfl (by decide) ⟨rfl, by decide⟩ ?_
              refine q_in (M := jm_C_isBill) rfl (Nat.le_of_ble_eq_true rfl) (ls := [some (.ref 0), some (.int (s 0 6))]) rfl ?_
              refine q_iload_n (pc' := 1) ja_C_isBill_0 rfl rfl ?_
              refine q_if_lt (pc' := 4) ja_C_isBill_1 rfl ?_ ?_
              · intro h13
                refine q_iconst (pc' := 26) ja_C_isBill_25 rfl 0 (by decide) ?_
                refine q_iret ja_C_isBill_26 rfl (by decide) ?_
                show q_W _ _ _ _ 8 [some (.ref 0)] [.int 0] s
                refine q_if_eq (pc' := 11) ja_C_floor_8 rfl (fun _ => ?_) (fun h => absurd ((by decide : (0 : Int32) = 0)) h)
                refine q_aload_n (pc' := 27) ja_C_floor_26 rfl rfl ?_
                refine q_getf (pc' := 30) (v := .ref 58) ja_C_floor_27 rfl (by decide) ⟨rfl, by decide⟩ rfl ?_
                refine q_aret ja_C_floor_30 rfl ?_
                show q_W _ _ _ _ 45 [some (.ref 0), some (.int a1), some (.int ((s 60 0) - 1))] [.ref 58, .ref (2 + 2 * a1.toNatClampNeg), .ref 0] s
                refine q_aload_n (pc' := 46) ja_C_would_45 rfl rfl ?_
                refine q_getf (pc' := 49) (v := .ref 60) ja_C_would_46 rfl (by decide) ⟨rfl, by decide⟩ rfl ?_
                refine q_iload_n (pc' := 50) ja_C_would_49 rfl rfl ?_
                refine q_aload_n (pc' := 51) ja_C_would_50 rfl rfl ?_
                refine q_getf (pc' := 54) (v := .ref 60) ja_C_would_51 rfl (by decide) ⟨rfl, by decide⟩ rfl ?_
                refine q_getf (pc' := 57) (v := .ref 63) ja_C_would_54 rfl (by decide) ⟨rfl, by decide⟩ rfl ?_
                refine q_iload_n (pc' := 58) ja_C_would_57 rfl rfl ?_
                refine q_iald (pc' := 59) (v := .int (s 63 ((s 60 0) - 1).toNatClampNeg)) ja_C_would_58 rfl (by decide) (l := 8) rfl (k7 h2 h4 h6 h8 h10 h12 h13) rfl ?_
                refine q_virt (pc' := 62) (c := 0) (as := [.ref (2 + 2 * a1.toNatClampNeg), .ref 58, .ref 60, .int ((s 60 0) - 1), .int (s 63 ((s 60 0) - 1).toNatClampNeg)]) (r := []) ja_C_would_59 rfl rfl rfl (by decide) ⟨rfl, by decide⟩ ?_
                exact (k8 h2 h4 h6 h8 h10 h12 h13)
              · intro h14
                refine q_iload_n (pc' := 5) ja_C_isBill_4 rfl rfl ?_
                refine q_aload_n (pc' := 6) ja_C_isBill_5 rfl rfl ?_
                refine q_getf (pc' := 9) (v := .int (s 0 3)) ja_C_isBill_6 rfl (by decide) ⟨rfl, by decide⟩ rfl ?_
                refine q_ic_ge (pc' := 12) ja_C_isBill_9 rfl ?_ ?_
                · intro h15
                  refine q_iconst (pc' := 26) ja_C_isBill_25 rfl 0 (by decide) ?_
                  refine q_iret ja_C_isBill_26 rfl (by decide) ?_
                  show q_W _ _ _ _ 8 [some (.ref 0)] [.int 0] s
                  refine q_if_eq (pc' := 11) ja_C_floor_8 rfl (fun _ => ?_) (fun h => absurd ((by decide : (0 : Int32) = 0)) h)
                  refine q_aload_n (pc' := 27) ja_C_floor_26 rfl rfl ?_
                  refine q_getf (pc' := 30) (v := .ref 58) ja_C_floor_27 rfl (by decide) ⟨rfl, by decide⟩ rfl ?_
                  refine q_aret ja_C_floor_30 rfl ?_
                  show q_W _ _ _ _ 45 [some (.ref 0), some (.int a1), some (.int ((s 60 0) - 1))] [.ref 58, .ref (2 + 2 * a1.toNatClampNeg), .ref 0] s
                  refine q_aload_n (pc' := 46) ja_C_would_45 rfl rfl ?_
                  refine q_getf (pc' := 49) (v := .ref 60) ja_C_would_46 rfl (by decide) ⟨rfl, by decide⟩ rfl ?_
                  refine q_iload_n (pc' := 50) ja_C_would_49 rfl rfl ?_
                  refine q_aload_n (pc' := 51) ja_C_would_50 rfl rfl ?_
                  refine q_getf (pc' := 54) (v := .ref 60) ja_C_would_51 rfl (by decide) ⟨rfl, by decide⟩ rfl ?_
                  refine q_getf (pc' := 57) (v := .ref 63) ja_C_would_54 rfl (by decide) ⟨rfl, by decide⟩ rfl ?_
                  refine q_iload_n (pc' := 58) ja_C_would_57 rfl rfl ?_
                  refine q_iald (pc' := 59) (v := .int (s 63 ((s 60 0) - 1).toNatClampNeg)) ja_C_would_58 rfl (by decide) (l := 8) rfl (k9 h2 h4 h6 h8 h10 h12 h14 h15) rfl ?_
                  refine q_virt (pc' := 62) (c := 0) (as := [.ref (2 + 2 * a1.toNatClampNeg), .ref 58, .ref 60, .int ((s 60 0) - 1), .int (s 63 ((s 60 0) - 1).toNatClampNeg)]) (r := []) ja_C_would_59 rfl rfl rfl (by decide) ⟨rfl, by decide⟩ ?_
                  exact (k10 h2 h4 h6 h8 h10 h12 h14 h15)
                · intro h16
                  refine q_iload_n (pc' := 13) ja_C_isBill_12 rfl rfl ?_
                  refine q_aload_n (pc' := 14) ja_C_isBill_13 rfl rfl ?_
                  refine q_getf (pc' := 17) (v := .ref 32) ja_C_isBill_14 rfl (by decide) ⟨rfl, by decide⟩ rfl ?_
                  refine q_alen (pc' := 18) ja_C_isBill_17 rfl (by decide) (kd := 17) (l := 8) rfl (by decide) (v := 8) (by decide) ?_
                  refine q_ic_ge (pc' := 21) ja_C_isBill_18 rfl ?_ ?_
                  · intro h17
                    refine q_iconst (pc' := 26) ja_C_isBill_25 rfl 0 (by decide) ?_
                    refine q_iret ja_C_isBill_26 rfl (by decide) ?_
                    show q_W _ _ _ _ 8 [some (.ref 0)] [.int 0] s
                    refine q_if_eq (pc' := 11) ja_C_floor_8 rfl (fun _ => ?_) (fun h => absurd ((by decide : (0 : Int32) = 0)) h)
                    refine q_aload_n (pc' := 27) ja_C_floor_26 rfl rfl ?_
                    refine q_getf (pc' := 30) (v := .ref 58) ja_C_floor_27 rfl (by decide) ⟨rfl, by decide⟩ rfl ?_
                    refine q_aret ja_C_floor_30 rfl ?_
                    show q_W _ _ _ _ 45 [some (.ref 0), some (.int a1), some (.int ((s 60 0) - 1))] [.ref 58, .ref (2 + 2 * a1.toNatClampNeg), .ref 0] s
                    refine q_aload_n (pc' := 46) ja_C_would_45 rfl rfl ?_
                    refine q_getf (pc' := 49) (v := .ref 60) ja_C_would_46 rfl (by decide) ⟨rfl, by decide⟩ rfl ?_
                    refine q_iload_n (pc' := 50) ja_C_would_49 rfl rfl ?_
                    refine q_aload_n (pc' := 51) ja_C_would_50 rfl rfl ?_
                    refine q_getf (pc' := 54) (v := .ref 60) ja_C_would_51 rfl (by decide) ⟨rfl, by decide⟩ rfl ?_
                    refine q_getf (pc' := 57) (v := .ref 63) ja_C_would_54 rfl (by decide) ⟨rfl, by decide⟩ rfl ?_
                    refine q_iload_n (pc' := 58) ja_C_would_57 rfl rfl ?_
                    refine q_iald (pc' := 59) (v := .int (s 63 ((s 60 0) - 1).toNatClampNeg)) ja_C_would_58 rfl (by decide) (l := 8) rfl (k11 h2 h4 h6 h8 h10 h12 h14 h16 h17) rfl ?_
                    refine q_virt (pc' := 62) (c := 0) (as := [.ref (2 + 2 * a1.toNatClampNeg), .ref 58, .ref 60, .int ((s 60 0) - 1), .int (s 63 ((s 60 0) - 1).toNatClampNeg)]) (r := []) ja_C_would_59 rfl rfl rfl (by decide) ⟨rfl, by decide⟩ ?_
                    exact (k12 h2 h4 h6 h8 h10 h12 h14 h16 h17)
                  · intro h18
                    refine q_iconst (pc' := 22) ja_C_isBill_21 rfl 1 (by decide) ?_
                    refine q_goto ja_C_isBill_22 ?_
                    refine q_iret ja_C_isBill_26 rfl (by decide) ?_
                    show q_W _ _ _ _ 8 [some (.ref 0)] [.int 1] s
                    refine q_if_eq (pc' := 11) ja_C_floor_8 rfl (fun h => absurd h ((by decide : ¬ (1 : Int32) = 0))) (fun _ => ?_)
                    refine q_aload_n (pc' := 12) ja_C_floor_11 rfl rfl ?_
                    refine q_getf (pc' := 15) (v := .ref 32) ja_C_floor_12 rfl (by decide) ⟨rfl, by decide⟩ rfl ?_
                    refine q_aload_n (pc' := 16) ja_C_floor_15 rfl rfl ?_
                    refine q_getf (pc' := 19) (v := .int (s 0 6)) ja_C_floor_16 rfl (by decide) ⟨rfl, by decide⟩ rfl ?_
                    refine q_aald (pc' := 20) (v := .ref (33 + 3 * (s 0 6).toNatClampNeg)) ja_C_floor_19 rfl (by decide) (kd := 17) (l := 8) rfl (by decide) (q_inr (l := 8) (by decide) h14 h18) (f_A32 (f_in (q_inr (l := 8) (by decide) h14 h18))) ?_
                    refine q_getf (pc' := 23) (v := .ref ((33 + 3 * (s 0 6).toNatClampNeg) + 1)) ja_C_floor_20 rfl (f_1_c (f_m32 (f_in (q_inr (l := 8) (by decide) h14 h18)))) ⟨by rw [f_1_k (f_m32 (f_in (q_inr (l := 8) (by decide) h14 h18)))], by decide⟩ (f_1_g2 (f_m32 (f_in (q_inr (l := 8) (by decide) h14 h18)))) ?_
                    refine q_goto ja_C_floor_23 ?_
                    refine q_aret ja_C_floor_30 rfl ?_
                    show q_W _ _ _ _ 45 [some (.ref 0), some (.int a1), some (.int ((s 60 0) - 1))] [.ref ((33 + 3 * (s 0 6).toNatClampNeg) + 1), .ref (2 + 2 * a1.toNatClampNeg), .ref 0] s
                    refine q_aload_n (pc' := 46) ja_C_would_45 rfl rfl ?_
                    refine q_getf (pc' := 49) (v := .ref 60) ja_C_would_46 rfl (by decide) ⟨rfl, by decide⟩ rfl ?_
                    refine q_iload_n (pc' := 50) ja_C_would_49 rfl rfl ?_
                    refine q_aload_n (pc' := 51) ja_C_would_50 rfl rfl ?_
                    refine q_getf (pc' := 54) (v := .ref 60) ja_C_would_51 rfl (by decide) ⟨rfl, by decide⟩ rfl ?_
                    refine q_getf (pc' := 57) (v := .ref 63) ja_C_would_54 rfl (by decide) ⟨rfl, by decide⟩ rfl ?_
                    refine q_iload_n (pc' := 58) ja_C_would_57 rfl rfl ?_
                    refine q_iald (pc' := 59) (v := .int (s 63 ((s 60 0) - 1).toNatClampNeg)) ja_C_would_58 rfl (by decide) (l := 8) rfl (k13 h2 h4 h6 h8 h10 h12 h14 h16 h18) rfl ?_
                    refine q_virt (pc' := 62) (c := 0) (as := [.ref (2 + 2 * a1.toNatClampNeg), .ref ((33 + 3 * (s 0 6).toNatClampNeg) + 1), .ref 60, .int ((s 60 0) - 1), .int (s 63 ((s 60 0) - 1).toNatClampNeg)]) (r := []) ja_C_would_59 rfl rfl rfl (by decide) ⟨rfl, by decide⟩ ?_
                    exact (k14 h2 h4 h6 h8 h10 h12 h14 h16 h18)
set_option maxRecDepth 20000 in
theorem t_C_would_62 {G : jv_X} {d : Nat} {B : Option Value → jg_H → Prop} {s : jg_H} (x1 : Int32) (x2 : Int32) (y0 : Int32)
    (k1 : B (some (.int y0)) s) :
    q_W G (d + 2) jm_C_would B 62 [some (.ref 0), some (.int x1), some (.int x2)] [.int y0] s := by
  exact q_iret ja_C_would_62 rfl rfl k1
set_option maxRecDepth 20000 in
theorem t_C_yield {G : jv_X} {d : Nat} {B : Option Value → jg_H → Prop} {s : jg_H} 
    (k1 : ¬ (s 60 0) ≤ 0 → ∀ s1 : jg_H, s1 = jg_up s 60 0 ((s 60 0) - 1) → B (some (.int (s1 60 0))) s1)
    (k2 : (s 60 0) ≤ 0 → B (some (.int (-3))) s) :
    q_P G (d + 1) 104 [.ref 0] s B := by
  refine q_in (M := jm_C_yield) rfl (Nat.le_of_ble_eq_true rfl) (ls := [some (.ref 0)]) rfl ?_
  refine q_aload_n (pc' := 1) ja_C_yield_0 rfl rfl ?_
  refine q_getf (pc' := 4) (v := .ref 60) ja_C_yield_1 rfl (by decide) ⟨rfl, by decide⟩ rfl ?_
  refine q_getf (pc' := 7) (v := .int (s 60 0)) ja_C_yield_4 rfl (by decide) ⟨rfl, by decide⟩ rfl ?_
  refine q_if_gt (pc' := 10) ja_C_yield_7 rfl ?_ ?_
  · intro h1
    refine q_aload_n (pc' := 14) ja_C_yield_13 rfl rfl ?_
    refine q_getf (pc' := 17) (v := .ref 60) ja_C_yield_14 rfl (by decide) ⟨rfl, by decide⟩ rfl ?_
    refine q_dup (pc' := 18) ja_C_yield_17 rfl rfl ?_
    refine q_getf (pc' := 21) (v := .int (s 60 0)) ja_C_yield_18 rfl (by decide) ⟨rfl, by decide⟩ rfl ?_
    refine q_iconst (pc' := 22) ja_C_yield_21 rfl 1 (by decide) ?_
    refine q_isub (pc' := 23) ja_C_yield_22 rfl ?_
    refine q_putf (pc' := 26) ja_C_yield_23 rfl (by decide) rfl rfl rfl ?_
    intro s1 e1
    refine q_aload_n (pc' := 27) ja_C_yield_26 rfl rfl ?_
    refine q_getf (pc' := 30) (v := .ref 60) ja_C_yield_27 rfl (by decide) ⟨rfl, by decide⟩ rfl ?_
    refine q_getf (pc' := 33) (v := .int (s1 60 0)) ja_C_yield_30 rfl (by decide) ⟨rfl, by decide⟩ rfl ?_
    exact q_iret ja_C_yield_33 rfl rfl (k1 h1 s1 e1)
  · intro h2
    refine q_bipush (pc' := 12) ja_C_yield_10 rfl (-3) (by decide) ?_
    exact q_iret ja_C_yield_12 rfl rfl (k2 h2)
set_option maxRecDepth 20000 in
theorem t_Conference_bring {G : jv_X} {d : Nat} {B : Option Value → jg_H → Prop} {s : jg_H} {c1 : Nat} (hc1 : f_8 c1) {c2 : Nat} (hc2 : f_8 c2)
    (k1 : ¬ (s c1 0) ≤ 10 → B (some (.int 0)) s)
    (k2 : (s c1 0) ≤ 10 → (s c2 0) ≤ 10 → q_P G d 119 [.ref 123, .ref c1, .ref c2] s (fun v t => q_W G d jm_Conference_bring B 26 [some (.ref 123), some (.ref c1), some (.ref c2), none, none, none, none, none] (v.toList ++ []) t))
    (k3 : (s c1 0) ≤ 10 → ¬ (s c2 0) ≤ 10 → B (some (.int 0)) s) :
    q_P G (d + 1) 118 [.ref 123, .ref c1, .ref c2] s B := by
  refine q_in (M := jm_Conference_bring) rfl (Nat.le_of_ble_eq_true rfl) (ls := [some (.ref 123), some (.ref c1), some (.ref c2), none, none, none, none, none]) rfl ?_
  refine q_aload_n (pc' := 1) ja_Conference_bring_0 rfl rfl ?_
  refine q_getf (pc' := 4) (v := .int (s c1 0)) ja_Conference_bring_1 rfl (f_8_c hc1) ⟨by rw [f_8_k hc1], by decide⟩ (f_i (f_8_k hc1) rfl) ?_
  refine q_bipush (pc' := 6) ja_Conference_bring_4 rfl 10 (by decide) ?_
  refine q_ic_gt (pc' := 9) ja_Conference_bring_6 rfl ?_ ?_
  · intro h1
    refine q_iconst (pc' := 19) ja_Conference_bring_18 rfl 0 (by decide) ?_
    exact q_iret ja_Conference_bring_19 rfl rfl (k1 h1)
  · intro h2
    refine q_aload_n (pc' := 10) ja_Conference_bring_9 rfl rfl ?_
    refine q_getf (pc' := 13) (v := .int (s c2 0)) ja_Conference_bring_10 rfl (f_8_c hc2) ⟨by rw [f_8_k hc2], by decide⟩ (f_i (f_8_k hc2) rfl) ?_
    refine q_bipush (pc' := 15) ja_Conference_bring_13 rfl 10 (by decide) ?_
    refine q_ic_le (pc' := 18) ja_Conference_bring_15 rfl ?_ ?_
    · intro h3
      refine q_aload_n (pc' := 21) ja_Conference_bring_20 rfl rfl ?_
      refine q_aload_n (pc' := 22) ja_Conference_bring_21 rfl rfl ?_
      refine q_aload_n (pc' := 23) ja_Conference_bring_22 rfl rfl ?_
      refine q_virt (pc' := 26) (c := 123) (as := [.ref c1, .ref c2]) (r := []) ja_Conference_bring_23 rfl rfl rfl (by decide) ⟨rfl, by decide⟩ ?_
      exact (k2 h2 h3)
    · intro h4
      refine q_iconst (pc' := 19) ja_Conference_bring_18 rfl 0 (by decide) ?_
      exact q_iret ja_Conference_bring_19 rfl rfl (k3 h2 h4)
set_option maxRecDepth 20000 in
theorem t_Conference_bring_26 {G : jv_X} {d : Nat} {B : Option Value → jg_H → Prop} {s : jg_H} {x1 : Nat} (hx1 : f_8 x1) {x2 : Nat} (hx2 : f_8 x2)
    (k1 : q_W G d jm_Conference_bring B 44 [some (.ref 123), some (.ref x1), some (.ref x2), some (.int (s 126 0)), some (.int 0), some (.int 0), some (.int 0), none] [] s) :
    q_W G d jm_Conference_bring B 26 [some (.ref 123), some (.ref x1), some (.ref x2), none, none, none, none, none] [] s := by
  refine q_aload_n (pc' := 27) ja_Conference_bring_26 rfl rfl ?_
  refine q_getf (pc' := 30) (v := .ref 125) ja_Conference_bring_27 rfl (by decide) ⟨rfl, by decide⟩ rfl ?_
  refine q_iconst (pc' := 31) ja_Conference_bring_30 rfl 0 (by decide) ?_
  refine q_aald (pc' := 32) (v := .ref 126) ja_Conference_bring_31 rfl (by decide) (kd := 15) (l := 11) rfl (by decide) (by decide) rfl ?_
  refine q_iconst (pc' := 33) ja_Conference_bring_32 rfl 0 (by decide) ?_
  refine q_iald (pc' := 34) (v := .int (s 126 0)) ja_Conference_bring_33 rfl (by decide) (l := 11) rfl (by decide) rfl ?_
  refine q_istore_n (pc' := 35) (ls' := [some (.ref 123), some (.ref x1), some (.ref x2), some (.int (s 126 0)), none, none, none, none]) ja_Conference_bring_34 rfl ⟨Nat.le_of_ble_eq_true rfl, rfl⟩ rfl ?_
  refine q_iconst (pc' := 36) ja_Conference_bring_35 rfl 0 (by decide) ?_
  refine q_istore (pc' := 38) (ls' := [some (.ref 123), some (.ref x1), some (.ref x2), some (.int (s 126 0)), some (.int 0), none, none, none]) ja_Conference_bring_36 rfl ⟨Nat.le_of_ble_eq_true rfl, rfl⟩ rfl ?_
  refine q_iconst (pc' := 39) ja_Conference_bring_38 rfl 0 (by decide) ?_
  refine q_istore (pc' := 41) (ls' := [some (.ref 123), some (.ref x1), some (.ref x2), some (.int (s 126 0)), some (.int 0), some (.int 0), none, none]) ja_Conference_bring_39 rfl ⟨Nat.le_of_ble_eq_true rfl, rfl⟩ rfl ?_
  refine q_iconst (pc' := 42) ja_Conference_bring_41 rfl 0 (by decide) ?_
  refine q_istore (pc' := 44) (ls' := [some (.ref 123), some (.ref x1), some (.ref x2), some (.int (s 126 0)), some (.int 0), some (.int 0), some (.int 0), none]) ja_Conference_bring_42 rfl ⟨Nat.le_of_ble_eq_true rfl, rfl⟩ rfl ?_
  exact k1
set_option maxRecDepth 20000 in
theorem t_Conference_bring_44 {G : jv_X} {d : Nat} {B : Option Value → jg_H → Prop} {s : jg_H} {x1 : Nat} (hx1 : f_8 x1) {x2 : Nat} (hx2 : f_8 x2) (x3 : Int32) (x4 : Int32) (x5 : Int32) (x6 : Int32) {o7 : Option Value} (ho7 : f_n o7 = true)
    (k1 : ¬ x6 < x3 → B (some (.int x3)) s)
    (k2 : x6 < x3 → ¬ x6 < 10 → B (some (.int x3)) s)
    (k3 : x6 < x3 → x6 < 10 → q_P G d 120 [.ref 123, .ref x1, .ref x2, .int x4, .int x5, .int ((x3 - x6) - 1)] s (fun v t => q_W G d jm_Conference_bring B 73 [some (.ref 123), some (.ref x1), some (.ref x2), some (.int x3), some (.int x4), some (.int x5), some (.int x6), o7] (v.toList ++ []) t)) :
    q_W G d jm_Conference_bring B 44 [some (.ref 123), some (.ref x1), some (.ref x2), some (.int x3), some (.int x4), some (.int x5), some (.int x6), o7] [] s := by
  refine q_iload (pc' := 46) ja_Conference_bring_44 rfl rfl ?_
  refine q_iload_n (pc' := 47) ja_Conference_bring_46 rfl rfl ?_
  refine q_ic_ge (pc' := 50) ja_Conference_bring_47 rfl ?_ ?_
  · intro h1
    refine q_iload_n (pc' := 115) ja_Conference_bring_114 rfl rfl ?_
    exact q_iret ja_Conference_bring_115 rfl rfl (k1 h1)
  · intro h2
    refine q_iload (pc' := 52) ja_Conference_bring_50 rfl rfl ?_
    refine q_bipush (pc' := 54) ja_Conference_bring_52 rfl 10 (by decide) ?_
    refine q_ic_ge (pc' := 57) ja_Conference_bring_54 rfl ?_ ?_
    · intro h3
      refine q_iload_n (pc' := 115) ja_Conference_bring_114 rfl rfl ?_
      exact q_iret ja_Conference_bring_115 rfl rfl (k2 h2 h3)
    · intro h4
      refine q_aload_n (pc' := 58) ja_Conference_bring_57 rfl rfl ?_
      refine q_aload_n (pc' := 59) ja_Conference_bring_58 rfl rfl ?_
      refine q_aload_n (pc' := 60) ja_Conference_bring_59 rfl rfl ?_
      refine q_iload (pc' := 62) ja_Conference_bring_60 rfl rfl ?_
      refine q_iload (pc' := 64) ja_Conference_bring_62 rfl rfl ?_
      refine q_iload_n (pc' := 65) ja_Conference_bring_64 rfl rfl ?_
      refine q_iload (pc' := 67) ja_Conference_bring_65 rfl rfl ?_
      refine q_isub (pc' := 68) ja_Conference_bring_67 rfl ?_
      refine q_iconst (pc' := 69) ja_Conference_bring_68 rfl 1 (by decide) ?_
      refine q_isub (pc' := 70) ja_Conference_bring_69 rfl ?_
      refine q_virt (pc' := 73) (c := 123) (as := [.ref x1, .ref x2, .int x4, .int x5, .int ((x3 - x6) - 1)]) (r := []) ja_Conference_bring_70 rfl rfl rfl (by decide) ⟨rfl, by decide⟩ ?_
      exact (k3 h2 h4)
set_option maxRecDepth 20000 in
theorem t_Conference_bring_73 {G : jv_X} {d : Nat} {B : Option Value → jg_H → Prop} {s : jg_H} {x1 : Nat} (hx1 : f_8 x1) {x2 : Nat} (hx2 : f_8 x2) (x3 : Int32) (x4 : Int32) (x5 : Int32) (x6 : Int32) {o7 : Option Value} (ho7 : f_n o7 = true) (y0 : Int32)
    (k1 : jv_in x6 10 = true)
    (k2 : ∀ s1 : jg_H, s1 = jg_up s 124 x6.toNatClampNeg y0 → q_P G d 121 [.ref x1, .int x4, .int y0] s1 (fun v t => q_W G d jm_Conference_bring B 92 [some (.ref 123), some (.ref x1), some (.ref x2), some (.int x3), some (.int x4), some (.int x5), some (.int x6), some (.int y0)] (v.toList ++ []) t)) :
    q_W G d jm_Conference_bring B 73 [some (.ref 123), some (.ref x1), some (.ref x2), some (.int x3), some (.int x4), some (.int x5), some (.int x6), o7] [.int y0] s := by
  refine q_istore (pc' := 75) (ls' := [some (.ref 123), some (.ref x1), some (.ref x2), some (.int x3), some (.int x4), some (.int x5), some (.int x6), some (.int y0)]) ja_Conference_bring_73 rfl ⟨Nat.le_of_ble_eq_true rfl, rfl⟩ rfl ?_
  refine q_aload_n (pc' := 76) ja_Conference_bring_75 rfl rfl ?_
  refine q_getf (pc' := 79) (v := .ref 124) ja_Conference_bring_76 rfl (by decide) ⟨rfl, by decide⟩ rfl ?_
  refine q_iload (pc' := 81) ja_Conference_bring_79 rfl rfl ?_
  refine q_iload (pc' := 83) ja_Conference_bring_81 rfl rfl ?_
  refine q_iast (pc' := 84) ja_Conference_bring_83 rfl (by decide) (l := 10) rfl k1 ?_
  intro s1 e1
  refine q_aload_n (pc' := 85) ja_Conference_bring_84 rfl rfl ?_
  refine q_iload (pc' := 87) ja_Conference_bring_85 rfl rfl ?_
  refine q_iload (pc' := 89) ja_Conference_bring_87 rfl rfl ?_
  refine q_stat (pc' := 92) (as := [.ref x1, .int x4, .int y0]) (r := []) ja_Conference_bring_89 rfl (by decide) rfl rfl ?_
  exact (k2 s1 e1)
set_option maxRecDepth 20000 in
theorem t_Conference_bring_92 {G : jv_X} {d : Nat} {B : Option Value → jg_H → Prop} {s : jg_H} {x1 : Nat} (hx1 : f_8 x1) {x2 : Nat} (hx2 : f_8 x2) (x3 : Int32) (x4 : Int32) (x5 : Int32) (x6 : Int32) (x7 : Int32) (y0 : Int32)
    (k1 : q_P G d 121 [.ref x2, .int x5, .int x7] s (fun v t => q_W G d jm_Conference_bring B 104 [some (.ref 123), some (.ref x1), some (.ref x2), some (.int x3), some (.int (y0 + 1)), some (.int x5), some (.int x6), some (.int x7)] (v.toList ++ []) t)) :
    q_W G d jm_Conference_bring B 92 [some (.ref 123), some (.ref x1), some (.ref x2), some (.int x3), some (.int x4), some (.int x5), some (.int x6), some (.int x7)] [.int y0] s := by
  refine q_iconst (pc' := 93) ja_Conference_bring_92 rfl 1 (by decide) ?_
  refine q_iadd (pc' := 94) ja_Conference_bring_93 rfl ?_
  refine q_istore (pc' := 96) (ls' := [some (.ref 123), some (.ref x1), some (.ref x2), some (.int x3), some (.int (y0 + 1)), some (.int x5), some (.int x6), some (.int x7)]) ja_Conference_bring_94 rfl ⟨Nat.le_of_ble_eq_true rfl, rfl⟩ rfl ?_
  refine q_aload_n (pc' := 97) ja_Conference_bring_96 rfl rfl ?_
  refine q_iload (pc' := 99) ja_Conference_bring_97 rfl rfl ?_
  refine q_iload (pc' := 101) ja_Conference_bring_99 rfl rfl ?_
  refine q_stat (pc' := 104) (as := [.ref x2, .int x5, .int x7]) (r := []) ja_Conference_bring_101 rfl (by decide) rfl rfl ?_
  exact k1
set_option maxRecDepth 20000 in
theorem t_Conference_bring_104 {G : jv_X} {d : Nat} {B : Option Value → jg_H → Prop} {s : jg_H} {x1 : Nat} (hx1 : f_8 x1) {x2 : Nat} (hx2 : f_8 x2) (x3 : Int32) (x4 : Int32) (x5 : Int32) (x6 : Int32) (x7 : Int32) (y0 : Int32)
    (k1 : q_W G d jm_Conference_bring B 44 [some (.ref 123), some (.ref x1), some (.ref x2), some (.int x3), some (.int x4), some (.int (y0 + 1)), some (.int (x6 + 1)), some (.int x7)] [] s) :
    q_W G d jm_Conference_bring B 104 [some (.ref 123), some (.ref x1), some (.ref x2), some (.int x3), some (.int x4), some (.int x5), some (.int x6), some (.int x7)] [.int y0] s := by
  refine q_iconst (pc' := 105) ja_Conference_bring_104 rfl 1 (by decide) ?_
  refine q_iadd (pc' := 106) ja_Conference_bring_105 rfl ?_
  refine q_istore (pc' := 108) (ls' := [some (.ref 123), some (.ref x1), some (.ref x2), some (.int x3), some (.int x4), some (.int (y0 + 1)), some (.int x6), some (.int x7)]) ja_Conference_bring_106 rfl ⟨Nat.le_of_ble_eq_true rfl, rfl⟩ rfl ?_
  refine q_iinc (pc' := 111) (ls' := [some (.ref 123), some (.ref x1), some (.ref x2), some (.int x3), some (.int x4), some (.int (y0 + 1)), some (.int (x6 + 1)), some (.int x7)]) ja_Conference_bring_108 rfl rfl (x6 + 1) rfl ⟨Nat.le_of_ble_eq_true rfl, rfl⟩ rfl ?_
  refine q_goto ja_Conference_bring_111 ?_
  exact k1
set_option maxRecDepth 20000 in
theorem t_Conference_leastNext {G : jv_X} {d : Nat} {B : Option Value → jg_H → Prop} {s : jg_H} {c1 : Nat} (hc1 : f_8 c1) {c2 : Nat} (hc2 : f_8 c2) (a3 : Int32) (a4 : Int32) (a5 : Int32)
    (k1 : q_W G (d + 1) jm_Conference_leastNext B 7 [some (.ref 123), some (.ref c1), some (.ref c2), some (.int a3), some (.int a4), some (.int a5), some (.int 61), some (.int a3), none, none] [] s) :
    q_P G (d + 2) 120 [.ref 123, .ref c1, .ref c2, .int a3, .int a4, .int a5] s B := by
  refine q_in (M := jm_Conference_leastNext) rfl (Nat.le_of_ble_eq_true rfl) (ls := [some (.ref 123), some (.ref c1), some (.ref c2), some (.int a3), some (.int a4), some (.int a5), none, none, none, none]) rfl ?_
  refine q_bipush (pc' := 2) ja_Conference_leastNext_0 rfl 61 (by decide) ?_
  refine q_istore (pc' := 4) (ls' := [some (.ref 123), some (.ref c1), some (.ref c2), some (.int a3), some (.int a4), some (.int a5), some (.int 61), none, none, none]) ja_Conference_leastNext_2 rfl ⟨Nat.le_of_ble_eq_true rfl, rfl⟩ rfl ?_
  refine q_iload_n (pc' := 5) ja_Conference_leastNext_4 rfl rfl ?_
  refine q_istore (pc' := 7) (ls' := [some (.ref 123), some (.ref c1), some (.ref c2), some (.int a3), some (.int a4), some (.int a5), some (.int 61), some (.int a3), none, none]) ja_Conference_leastNext_5 rfl ⟨Nat.le_of_ble_eq_true rfl, rfl⟩ rfl ?_
  exact k1
set_option maxRecDepth 20000 in
theorem t_Conference_leastNext_7 {G : jv_X} {d : Nat} {B : Option Value → jg_H → Prop} {s : jg_H} {x1 : Nat} (hx1 : f_8 x1) {x2 : Nat} (hx2 : f_8 x2) (x3 : Int32) (x4 : Int32) (x5 : Int32) (x6 : Int32) (x7 : Int32) {o8 : Option Value} (ho8 : f_n o8 = true) {o9 : Option Value} (ho9 : f_n o9 = true)
    (k1 : ¬ x7 < (s x1 0) → B (some (.int x6)) s)
    (k2 : x7 < (s x1 0) → x7 < 0 → q_P G (d + 1) 121 [.ref x2, .int x4, .int (-1)] s (fun v t => q_W G (d + 1) jm_Conference_leastNext B 32 [some (.ref 123), some (.ref x1), some (.ref x2), some (.int x3), some (.int x4), some (.int x5), some (.int x6), some (.int x7), some (.int (-1)), o9] (v.toList ++ []) t))
    (k3 : x7 < (s x1 0) → ¬ x7 < 0 → ¬ x7 < 10 → q_P G (d + 1) 121 [.ref x2, .int x4, .int (-1)] s (fun v t => q_W G (d + 1) jm_Conference_leastNext B 32 [some (.ref 123), some (.ref x1), some (.ref x2), some (.int x3), some (.int x4), some (.int x5), some (.int x6), some (.int x7), some (.int (-1)), o9] (v.toList ++ []) t))
    (k4 : x7 < (s x1 0) → ¬ x7 < 0 → x7 < 10 → q_P G (d + 1) 121 [.ref x2, .int x4, .int (s (x1 + 1) x7.toNatClampNeg)] s (fun v t => q_W G (d + 1) jm_Conference_leastNext B 32 [some (.ref 123), some (.ref x1), some (.ref x2), some (.int x3), some (.int x4), some (.int x5), some (.int x6), some (.int x7), some (.int (s (x1 + 1) x7.toNatClampNeg)), o9] (v.toList ++ []) t)) :
    q_W G (d + 1) jm_Conference_leastNext B 7 [some (.ref 123), some (.ref x1), some (.ref x2), some (.int x3), some (.int x4), some (.int x5), some (.int x6), some (.int x7), o8, o9] [] s := by
  refine q_iload (pc' := 9) ja_Conference_leastNext_7 rfl rfl ?_
  refine q_aload_n (pc' := 10) ja_Conference_leastNext_9 rfl rfl ?_
  refine q_getf (pc' := 13) (v := .int (s x1 0)) ja_Conference_leastNext_10 rfl (f_8_c hx1) ⟨by rw [f_8_k hx1], by decide⟩ (f_i (f_8_k hx1) rfl) ?_
  refine q_ic_ge (pc' := 16) ja_Conference_leastNext_13 rfl ?_ ?_
  · intro h1
    refine q_iload (pc' := 81) ja_Conference_leastNext_79 rfl rfl ?_
    exact q_iret ja_Conference_leastNext_81 rfl rfl (k1 h1)
  · intro h2
    refine q_aload_n (pc' := 17) ja_Conference_leastNext_16 rfl rfl ?_
    refine q_iload (pc' := 19) ja_Conference_leastNext_17 rfl rfl ?_
    refine q_virt (pc' := 22) (c := x1) (as := [.int x7]) (r := []) ja_Conference_leastNext_19 rfl rfl rfl (f_8_c hx1) ⟨by rw [f_8_k hx1], by decide⟩ ?_
    refine q_in (M := jm_Sections_wordAt) rfl (Nat.le_of_ble_eq_true rfl) (ls := [some (.ref x1), some (.int x7)]) rfl ?_
    refine q_iload_n (pc' := 1) ja_Sections_wordAt_0 rfl rfl ?_
    refine q_if_lt (pc' := 4) ja_Sections_wordAt_1 rfl ?_ ?_
    · intro h3
      refine q_iconst (pc' := 31) ja_Sections_wordAt_30 rfl (-1) (by decide) ?_
      refine q_iret ja_Sections_wordAt_31 rfl rfl ?_
      show q_W _ _ _ _ 22 [some (.ref 123), some (.ref x1), some (.ref x2), some (.int x3), some (.int x4), some (.int x5), some (.int x6), some (.int x7), o8, o9] [.int (-1)] s
      refine q_istore (pc' := 24) (ls' := [some (.ref 123), some (.ref x1), some (.ref x2), some (.int x3), some (.int x4), some (.int x5), some (.int x6), some (.int x7), some (.int (-1)), o9]) ja_Conference_leastNext_22 rfl ⟨Nat.le_of_ble_eq_true rfl, rfl⟩ rfl ?_
      refine q_aload_n (pc' := 25) ja_Conference_leastNext_24 rfl rfl ?_
      refine q_iload (pc' := 27) ja_Conference_leastNext_25 rfl rfl ?_
      refine q_iload (pc' := 29) ja_Conference_leastNext_27 rfl rfl ?_
      refine q_stat (pc' := 32) (as := [.ref x2, .int x4, .int (-1)]) (r := []) ja_Conference_leastNext_29 rfl (by decide) rfl rfl ?_
      exact (k2 h2 h3)
    · intro h4
      refine q_iload_n (pc' := 5) ja_Sections_wordAt_4 rfl rfl ?_
      refine q_aload_n (pc' := 6) ja_Sections_wordAt_5 rfl rfl ?_
      refine q_getf (pc' := 9) (v := .int (s x1 0)) ja_Sections_wordAt_6 rfl (f_8_c hx1) ⟨by rw [f_8_k hx1], by decide⟩ (f_i (f_8_k hx1) rfl) ?_
      refine q_ic_ge (pc' := 12) ja_Sections_wordAt_9 rfl (fun h => absurd (h2) h) (fun _ => ?_)
      refine q_iload_n (pc' := 13) ja_Sections_wordAt_12 rfl rfl ?_
      refine q_aload_n (pc' := 14) ja_Sections_wordAt_13 rfl rfl ?_
      refine q_getf (pc' := 17) (v := .ref (x1 + 1)) ja_Sections_wordAt_14 rfl (f_8_c hx1) ⟨by rw [f_8_k hx1], by decide⟩ (f_8_g1 hx1) ?_
      refine q_alen (pc' := 18) ja_Sections_wordAt_17 rfl (f_a_c (f_8_s1 hx1)) (kd := 13) (l := 10) (f_a_k (f_8_s1 hx1)) (by decide) (v := 10) (by decide) ?_
      refine q_ic_ge (pc' := 21) ja_Sections_wordAt_18 rfl ?_ ?_
      · intro h5
        refine q_iconst (pc' := 31) ja_Sections_wordAt_30 rfl (-1) (by decide) ?_
        refine q_iret ja_Sections_wordAt_31 rfl rfl ?_
        show q_W _ _ _ _ 22 [some (.ref 123), some (.ref x1), some (.ref x2), some (.int x3), some (.int x4), some (.int x5), some (.int x6), some (.int x7), o8, o9] [.int (-1)] s
        refine q_istore (pc' := 24) (ls' := [some (.ref 123), some (.ref x1), some (.ref x2), some (.int x3), some (.int x4), some (.int x5), some (.int x6), some (.int x7), some (.int (-1)), o9]) ja_Conference_leastNext_22 rfl ⟨Nat.le_of_ble_eq_true rfl, rfl⟩ rfl ?_
        refine q_aload_n (pc' := 25) ja_Conference_leastNext_24 rfl rfl ?_
        refine q_iload (pc' := 27) ja_Conference_leastNext_25 rfl rfl ?_
        refine q_iload (pc' := 29) ja_Conference_leastNext_27 rfl rfl ?_
        refine q_stat (pc' := 32) (as := [.ref x2, .int x4, .int (-1)]) (r := []) ja_Conference_leastNext_29 rfl (by decide) rfl rfl ?_
        exact (k3 h2 h4 h5)
      · intro h6
        refine q_aload_n (pc' := 22) ja_Sections_wordAt_21 rfl rfl ?_
        refine q_getf (pc' := 25) (v := .ref (x1 + 1)) ja_Sections_wordAt_22 rfl (f_8_c hx1) ⟨by rw [f_8_k hx1], by decide⟩ (f_8_g1 hx1) ?_
        refine q_iload_n (pc' := 26) ja_Sections_wordAt_25 rfl rfl ?_
        refine q_iald (pc' := 27) (v := .int (s (x1 + 1) x7.toNatClampNeg)) ja_Sections_wordAt_26 rfl (f_a_c (f_8_s1 hx1)) (l := 10) (f_a_k (f_8_s1 hx1)) (q_inr (l := 10) (by decide) h4 h6) (f_i (f_a_k (f_8_s1 hx1)) rfl) ?_
        refine q_goto ja_Sections_wordAt_27 ?_
        refine q_iret ja_Sections_wordAt_31 rfl rfl ?_
        show q_W _ _ _ _ 22 [some (.ref 123), some (.ref x1), some (.ref x2), some (.int x3), some (.int x4), some (.int x5), some (.int x6), some (.int x7), o8, o9] [.int (s (x1 + 1) x7.toNatClampNeg)] s
        refine q_istore (pc' := 24) (ls' := [some (.ref 123), some (.ref x1), some (.ref x2), some (.int x3), some (.int x4), some (.int x5), some (.int x6), some (.int x7), some (.int (s (x1 + 1) x7.toNatClampNeg)), o9]) ja_Conference_leastNext_22 rfl ⟨Nat.le_of_ble_eq_true rfl, rfl⟩ rfl ?_
        refine q_aload_n (pc' := 25) ja_Conference_leastNext_24 rfl rfl ?_
        refine q_iload (pc' := 27) ja_Conference_leastNext_25 rfl rfl ?_
        refine q_iload (pc' := 29) ja_Conference_leastNext_27 rfl rfl ?_
        refine q_stat (pc' := 32) (as := [.ref x2, .int x4, .int (s (x1 + 1) x7.toNatClampNeg)]) (r := []) ja_Conference_leastNext_29 rfl (by decide) rfl rfl ?_
        exact (k4 h2 h4 h6)
set_option maxRecDepth 20000 in
theorem t_Conference_leastNext_32 {G : jv_X} {d : Nat} {B : Option Value → jg_H → Prop} {s : jg_H} {x1 : Nat} (hx1 : f_8 x1) {x2 : Nat} (hx2 : f_8 x2) (x3 : Int32) (x4 : Int32) (x5 : Int32) (x6 : Int32) (x7 : Int32) (x8 : Int32) {o9 : Option Value} (ho9 : f_n o9 = true) (y0 : Int32)
    (k1 : ¬ x8 < x6 → q_W G (d + 1) jm_Conference_leastNext B 7 [some (.ref 123), some (.ref x1), some (.ref x2), some (.int x3), some (.int x4), some (.int x5), some (.int x6), some (.int (x7 + 1)), some (.int x8), some (.int y0)] [] s)
    (k2 : x8 < x6 → ¬ y0 < (s x2 0) → q_W G (d + 1) jm_Conference_leastNext B 7 [some (.ref 123), some (.ref x1), some (.ref x2), some (.int x3), some (.int x4), some (.int x5), some (.int x6), some (.int (x7 + 1)), some (.int x8), some (.int y0)] [] s)
    (k3 : x8 < x6 → y0 < (s x2 0) → jv_in (x7 + 1) 11 = true)
    (k4 : x8 < x6 → y0 < (s x2 0) → jv_in (y0 + 1) 11 = true)
    (k5 : x8 < x6 → y0 < (s x2 0) → (s (126 + (x7 + 1).toNatClampNeg) (y0 + 1).toNatClampNeg) < x5 → q_W G (d + 1) jm_Conference_leastNext B 7 [some (.ref 123), some (.ref x1), some (.ref x2), some (.int x3), some (.int x4), some (.int x5), some (.int x6), some (.int (x7 + 1)), some (.int x8), some (.int y0)] [] s)
    (k6 : x8 < x6 → y0 < (s x2 0) → ¬ (s (126 + (x7 + 1).toNatClampNeg) (y0 + 1).toNatClampNeg) < x5 → q_W G (d + 1) jm_Conference_leastNext B 7 [some (.ref 123), some (.ref x1), some (.ref x2), some (.int x3), some (.int x4), some (.int x5), some (.int x8), some (.int (x7 + 1)), some (.int x8), some (.int y0)] [] s) :
    q_W G (d + 1) jm_Conference_leastNext B 32 [some (.ref 123), some (.ref x1), some (.ref x2), some (.int x3), some (.int x4), some (.int x5), some (.int x6), some (.int x7), some (.int x8), o9] [.int y0] s := by
  refine q_istore (pc' := 34) (ls' := [some (.ref 123), some (.ref x1), some (.ref x2), some (.int x3), some (.int x4), some (.int x5), some (.int x6), some (.int x7), some (.int x8), some (.int y0)]) ja_Conference_leastNext_32 rfl ⟨Nat.le_of_ble_eq_true rfl, rfl⟩ rfl ?_
  refine q_iload (pc' := 36) ja_Conference_leastNext_34 rfl rfl ?_
  refine q_iload (pc' := 38) ja_Conference_leastNext_36 rfl rfl ?_
  refine q_ic_ge (pc' := 41) ja_Conference_leastNext_38 rfl ?_ ?_
  · intro h1
    refine q_iinc (pc' := 76) (ls' := [some (.ref 123), some (.ref x1), some (.ref x2), some (.int x3), some (.int x4), some (.int x5), some (.int x6), some (.int (x7 + 1)), some (.int x8), some (.int y0)]) ja_Conference_leastNext_73 rfl rfl (x7 + 1) rfl ⟨Nat.le_of_ble_eq_true rfl, rfl⟩ rfl ?_
    refine q_goto ja_Conference_leastNext_76 ?_
    exact (k1 h1)
  · intro h2
    refine q_iload (pc' := 43) ja_Conference_leastNext_41 rfl rfl ?_
    refine q_aload_n (pc' := 44) ja_Conference_leastNext_43 rfl rfl ?_
    refine q_getf (pc' := 47) (v := .int (s x2 0)) ja_Conference_leastNext_44 rfl (f_8_c hx2) ⟨by rw [f_8_k hx2], by decide⟩ (f_i (f_8_k hx2) rfl) ?_
    refine q_ic_ge (pc' := 50) ja_Conference_leastNext_47 rfl ?_ ?_
    · intro h3
      refine q_iinc (pc' := 76) (ls' := [some (.ref 123), some (.ref x1), some (.ref x2), some (.int x3), some (.int x4), some (.int x5), some (.int x6), some (.int (x7 + 1)), some (.int x8), some (.int y0)]) ja_Conference_leastNext_73 rfl rfl (x7 + 1) rfl ⟨Nat.le_of_ble_eq_true rfl, rfl⟩ rfl ?_
      refine q_goto ja_Conference_leastNext_76 ?_
      exact (k2 h2 h3)
    · intro h4
      refine q_aload_n (pc' := 51) ja_Conference_leastNext_50 rfl rfl ?_
      refine q_getf (pc' := 54) (v := .ref 125) ja_Conference_leastNext_51 rfl (by decide) ⟨rfl, by decide⟩ rfl ?_
      refine q_iload (pc' := 56) ja_Conference_leastNext_54 rfl rfl ?_
      refine q_iconst (pc' := 57) ja_Conference_leastNext_56 rfl 1 (by decide) ?_
      refine q_iadd (pc' := 58) ja_Conference_leastNext_57 rfl ?_
      refine q_aald (pc' := 59) (v := .ref (126 + (x7 + 1).toNatClampNeg)) ja_Conference_leastNext_58 rfl (by decide) (kd := 15) (l := 11) rfl (by decide) (k3 h2 h4) (f_A125 (f_in (k3 h2 h4))) ?_
      refine q_iload (pc' := 61) ja_Conference_leastNext_59 rfl rfl ?_
      refine q_iconst (pc' := 62) ja_Conference_leastNext_61 rfl 1 (by decide) ?_
      refine q_iadd (pc' := 63) ja_Conference_leastNext_62 rfl ?_
      refine q_iald (pc' := 64) (v := .int (s (126 + (x7 + 1).toNatClampNeg) (y0 + 1).toNatClampNeg)) ja_Conference_leastNext_63 rfl (f_a_c (f_m125 (f_in (k3 h2 h4)))) (l := 11) (f_a_k (f_m125 (f_in (k3 h2 h4)))) (k4 h2 h4) (f_i (f_a_k (f_m125 (f_in (k3 h2 h4)))) rfl) ?_
      refine q_iload (pc' := 66) ja_Conference_leastNext_64 rfl rfl ?_
      refine q_ic_lt (pc' := 69) ja_Conference_leastNext_66 rfl ?_ ?_
      · intro h5
        refine q_iinc (pc' := 76) (ls' := [some (.ref 123), some (.ref x1), some (.ref x2), some (.int x3), some (.int x4), some (.int x5), some (.int x6), some (.int (x7 + 1)), some (.int x8), some (.int y0)]) ja_Conference_leastNext_73 rfl rfl (x7 + 1) rfl ⟨Nat.le_of_ble_eq_true rfl, rfl⟩ rfl ?_
        refine q_goto ja_Conference_leastNext_76 ?_
        exact (k5 h2 h4 h5)
      · intro h6
        refine q_iload (pc' := 71) ja_Conference_leastNext_69 rfl rfl ?_
        refine q_istore (pc' := 73) (ls' := [some (.ref 123), some (.ref x1), some (.ref x2), some (.int x3), some (.int x4), some (.int x5), some (.int x8), some (.int x7), some (.int x8), some (.int y0)]) ja_Conference_leastNext_71 rfl ⟨Nat.le_of_ble_eq_true rfl, rfl⟩ rfl ?_
        refine q_iinc (pc' := 76) (ls' := [some (.ref 123), some (.ref x1), some (.ref x2), some (.int x3), some (.int x4), some (.int x5), some (.int x8), some (.int (x7 + 1)), some (.int x8), some (.int y0)]) ja_Conference_leastNext_73 rfl rfl (x7 + 1) rfl ⟨Nat.le_of_ble_eq_true rfl, rfl⟩ rfl ?_
        refine q_goto ja_Conference_leastNext_76 ?_
        exact (k6 h2 h4 h6)
