/-! tell: walks with joins, and what it does on either side -/
set_option maxRecDepth 20000 in
theorem t2_C_tell {G : jv_X} {d : Nat} {B : Option Value → jg_H → Prop} {s : jg_H} (a1 : Int32) (a2 : Int32) (a3 : Int32)
    (k1 : a1 < 1 → B (some (.int (-2))) s)
    (k2 : ¬ a1 < 1 → ¬ a1 ≤ 3 → B (some (.int (-2))) s)
    (k3 : ¬ a1 < 1 → a1 ≤ 3 → a1 = 2 → a3 < 1 → B (some (.int (-2))) s)
    (k4 : ¬ a1 < 1 → a1 ≤ 3 → a1 = 2 → ¬ a3 < 1 → ¬ a3 ≤ 60 → B (some (.int (-2))) s)
    (k5 : ¬ a1 < 1 → a1 ≤ 3 → a1 = 2 → ¬ a3 < 1 → a3 ≤ 60 → q_W G (d + 2) jm_C_tell B 24 [some (.ref 0), some (.int a1), some (.int a2), some (.int a3)] [] s)
    (k6 : ¬ a1 < 1 → a1 ≤ 3 → ¬ a1 = 2 → ¬ a1 = 3 → q_W G (d + 2) jm_C_tell B 24 [some (.ref 0), some (.int a1), some (.int a2), some (.int a3)] [] s)
    (k7 : ¬ a1 < 1 → a1 ≤ 3 → ¬ a1 = 2 → a1 = 3 → a3 < 1 → B (some (.int (-2))) s)
    (k8 : ¬ a1 < 1 → a1 ≤ 3 → ¬ a1 = 2 → a1 = 3 → ¬ a3 < 1 → ¬ a3 ≤ 60 → B (some (.int (-2))) s)
    (k9 : ¬ a1 < 1 → a1 ≤ 3 → ¬ a1 = 2 → a1 = 3 → ¬ a3 < 1 → a3 ≤ 60 → q_W G (d + 2) jm_C_tell B 24 [some (.ref 0), some (.int a1), some (.int a2), some (.int a3)] [] s) :
    q_P G (d + 3) 106 [.ref 0, .int a1, .int a2, .int a3] s B := by
  refine q_in (M := jm_C_tell) rfl (Nat.le_of_ble_eq_true rfl) (ls := [some (.ref 0), some (.int a1), some (.int a2), some (.int a3)]) rfl ?_
  refine q_iload_n (pc' := 1) ja_C_tell_0 rfl rfl ?_
  refine q_stat (pc' := 4) (as := [.int a1]) (r := []) ja_C_tell_1 rfl (by decide) rfl rfl ?_
  refine q_in (M := jm_C_isAmendment) rfl (Nat.le_of_ble_eq_true rfl) (ls := [some (.int a1)]) rfl ?_
  refine q_iload_n (pc' := 1) ja_C_isAmendment_0 rfl rfl ?_
  refine q_iconst (pc' := 2) ja_C_isAmendment_1 rfl 1 (by decide) ?_
  refine q_ic_lt (pc' := 5) ja_C_isAmendment_2 rfl ?_ ?_
  · intro h1
    refine q_iconst (pc' := 15) ja_C_isAmendment_14 rfl 0 (by decide) ?_
    refine q_iret ja_C_isAmendment_15 rfl (by decide) ?_
    show q_W _ _ _ _ 4 [some (.ref 0), some (.int a1), some (.int a2), some (.int a3)] [.int 0] s
    refine q_if_eq (pc' := 7) ja_C_tell_4 rfl (fun _ => ?_) (fun h => absurd ((by decide : (0 : Int32) = 0)) h)
    refine q_bipush (pc' := 23) ja_C_tell_21 rfl (-2) (by decide) ?_
    exact q_iret ja_C_tell_23 rfl rfl (k1 h1)
  · intro h2
    refine q_iload_n (pc' := 6) ja_C_isAmendment_5 rfl rfl ?_
    refine q_iconst (pc' := 7) ja_C_isAmendment_6 rfl 3 (by decide) ?_
    refine q_ic_gt (pc' := 10) ja_C_isAmendment_7 rfl ?_ ?_
    · intro h3
      refine q_iconst (pc' := 15) ja_C_isAmendment_14 rfl 0 (by decide) ?_
      refine q_iret ja_C_isAmendment_15 rfl (by decide) ?_
      show q_W _ _ _ _ 4 [some (.ref 0), some (.int a1), some (.int a2), some (.int a3)] [.int 0] s
      refine q_if_eq (pc' := 7) ja_C_tell_4 rfl (fun _ => ?_) (fun h => absurd ((by decide : (0 : Int32) = 0)) h)
      refine q_bipush (pc' := 23) ja_C_tell_21 rfl (-2) (by decide) ?_
      exact q_iret ja_C_tell_23 rfl rfl (k2 h2 h3)
    · intro h4
      refine q_iconst (pc' := 11) ja_C_isAmendment_10 rfl 1 (by decide) ?_
      refine q_goto ja_C_isAmendment_11 ?_
      refine q_iret ja_C_isAmendment_15 rfl (by decide) ?_
      show q_W _ _ _ _ 4 [some (.ref 0), some (.int a1), some (.int a2), some (.int a3)] [.int 1] s
      refine q_if_eq (pc' := 7) ja_C_tell_4 rfl (fun h => absurd h ((by decide : ¬ (1 : Int32) = 0))) (fun _ => ?_)
      refine q_iload_n (pc' := 8) ja_C_tell_7 rfl rfl ?_
      refine q_stat (pc' := 11) (as := [.int a1]) (r := []) ja_C_tell_8 rfl (by decide) rfl rfl ?_
      refine q_in (M := jm_C_takesWord) rfl (Nat.le_of_ble_eq_true rfl) (ls := [some (.int a1)]) rfl ?_
      refine q_iload_n (pc' := 1) ja_C_takesWord_0 rfl rfl ?_
      refine q_iconst (pc' := 2) ja_C_takesWord_1 rfl 2 (by decide) ?_
      refine q_ic_eq (pc' := 5) ja_C_takesWord_2 rfl ?_ ?_
      · intro h5
        refine q_iconst (pc' := 11) ja_C_takesWord_10 rfl 1 (by decide) ?_
        refine q_goto ja_C_takesWord_11 ?_
        refine q_iret ja_C_takesWord_15 rfl (by decide) ?_
        show q_W _ _ _ _ 11 [some (.ref 0), some (.int a1), some (.int a2), some (.int a3)] [.int 1] s
        refine q_if_eq (pc' := 14) ja_C_tell_11 rfl (fun h => absurd h ((by decide : ¬ (1 : Int32) = 0))) (fun _ => ?_)
        refine q_iload_n (pc' := 15) ja_C_tell_14 rfl rfl ?_
        refine q_stat (pc' := 18) (as := [.int a3]) (r := []) ja_C_tell_15 rfl (by decide) rfl rfl ?_
        refine q_in (M := jm_C_isWord) rfl (Nat.le_of_ble_eq_true rfl) (ls := [some (.int a3)]) rfl ?_
        refine q_iload_n (pc' := 1) ja_C_isWord_0 rfl rfl ?_
        refine q_iconst (pc' := 2) ja_C_isWord_1 rfl 1 (by decide) ?_
        refine q_ic_lt (pc' := 5) ja_C_isWord_2 rfl ?_ ?_
        · intro h6
          refine q_iconst (pc' := 16) ja_C_isWord_15 rfl 0 (by decide) ?_
          refine q_iret ja_C_isWord_16 rfl (by decide) ?_
          show q_W _ _ _ _ 18 [some (.ref 0), some (.int a1), some (.int a2), some (.int a3)] [.int 0] s
          refine q_if_ne (pc' := 21) ja_C_tell_18 rfl (fun h => absurd ((by decide : (0 : Int32) = 0)) h) (fun _ => ?_)
          refine q_bipush (pc' := 23) ja_C_tell_21 rfl (-2) (by decide) ?_
          exact q_iret ja_C_tell_23 rfl rfl (k3 h2 h4 h5 h6)
        · intro h7
          refine q_iload_n (pc' := 6) ja_C_isWord_5 rfl rfl ?_
          refine q_bipush (pc' := 8) ja_C_isWord_6 rfl 60 (by decide) ?_
          refine q_ic_gt (pc' := 11) ja_C_isWord_8 rfl ?_ ?_
          · intro h8
            refine q_iconst (pc' := 16) ja_C_isWord_15 rfl 0 (by decide) ?_
            refine q_iret ja_C_isWord_16 rfl (by decide) ?_
            show q_W _ _ _ _ 18 [some (.ref 0), some (.int a1), some (.int a2), some (.int a3)] [.int 0] s
            refine q_if_ne (pc' := 21) ja_C_tell_18 rfl (fun h => absurd ((by decide : (0 : Int32) = 0)) h) (fun _ => ?_)
            refine q_bipush (pc' := 23) ja_C_tell_21 rfl (-2) (by decide) ?_
            exact q_iret ja_C_tell_23 rfl rfl (k4 h2 h4 h5 h7 h8)
          · intro h9
            refine q_iconst (pc' := 12) ja_C_isWord_11 rfl 1 (by decide) ?_
            refine q_goto ja_C_isWord_12 ?_
            refine q_iret ja_C_isWord_16 rfl (by decide) ?_
            show q_W _ _ _ _ 18 [some (.ref 0), some (.int a1), some (.int a2), some (.int a3)] [.int 1] s
            refine q_if_ne (pc' := 21) ja_C_tell_18 rfl (fun _ => ?_) (fun h => absurd h ((by decide : ¬ (1 : Int32) = 0)))
            exact (k5 h2 h4 h5 h7 h9)
      · intro h10
        refine q_iload_n (pc' := 6) ja_C_takesWord_5 rfl rfl ?_
        refine q_iconst (pc' := 7) ja_C_takesWord_6 rfl 3 (by decide) ?_
        refine q_ic_ne (pc' := 10) ja_C_takesWord_7 rfl ?_ ?_
        · intro h11
          refine q_iconst (pc' := 15) ja_C_takesWord_14 rfl 0 (by decide) ?_
          refine q_iret ja_C_takesWord_15 rfl (by decide) ?_
          show q_W _ _ _ _ 11 [some (.ref 0), some (.int a1), some (.int a2), some (.int a3)] [.int 0] s
          refine q_if_eq (pc' := 14) ja_C_tell_11 rfl (fun _ => ?_) (fun h => absurd ((by decide : (0 : Int32) = 0)) h)
          exact (k6 h2 h4 h10 h11)
        · intro h12
          refine q_iconst (pc' := 11) ja_C_takesWord_10 rfl 1 (by decide) ?_
          refine q_goto ja_C_takesWord_11 ?_
          refine q_iret ja_C_takesWord_15 rfl (by decide) ?_
          show q_W _ _ _ _ 11 [some (.ref 0), some (.int a1), some (.int a2), some (.int a3)] [.int 1] s
          refine q_if_eq (pc' := 14) ja_C_tell_11 rfl (fun h => absurd h ((by decide : ¬ (1 : Int32) = 0))) (fun _ => ?_)
          refine q_iload_n (pc' := 15) ja_C_tell_14 rfl rfl ?_
          refine q_stat (pc' := 18) (as := [.int a3]) (r := []) ja_C_tell_15 rfl (by decide) rfl rfl ?_
          refine q_in (M := jm_C_isWord) rfl (Nat.le_of_ble_eq_true rfl) (ls := [some (.int a3)]) rfl ?_
          refine q_iload_n (pc' := 1) ja_C_isWord_0 rfl rfl ?_
          refine q_iconst (pc' := 2) ja_C_isWord_1 rfl 1 (by decide) ?_
          refine q_ic_lt (pc' := 5) ja_C_isWord_2 rfl ?_ ?_
          · intro h13
            refine q_iconst (pc' := 16) ja_C_isWord_15 rfl 0 (by decide) ?_
            refine q_iret ja_C_isWord_16 rfl (by decide) ?_
            show q_W _ _ _ _ 18 [some (.ref 0), some (.int a1), some (.int a2), some (.int a3)] [.int 0] s
            refine q_if_ne (pc' := 21) ja_C_tell_18 rfl (fun h => absurd ((by decide : (0 : Int32) = 0)) h) (fun _ => ?_)
            refine q_bipush (pc' := 23) ja_C_tell_21 rfl (-2) (by decide) ?_
            exact q_iret ja_C_tell_23 rfl rfl (k7 h2 h4 h10 h12 h13)
          · intro h14
            refine q_iload_n (pc' := 6) ja_C_isWord_5 rfl rfl ?_
            refine q_bipush (pc' := 8) ja_C_isWord_6 rfl 60 (by decide) ?_
            refine q_ic_gt (pc' := 11) ja_C_isWord_8 rfl ?_ ?_
            · intro h15
              refine q_iconst (pc' := 16) ja_C_isWord_15 rfl 0 (by decide) ?_
              refine q_iret ja_C_isWord_16 rfl (by decide) ?_
              show q_W _ _ _ _ 18 [some (.ref 0), some (.int a1), some (.int a2), some (.int a3)] [.int 0] s
              refine q_if_ne (pc' := 21) ja_C_tell_18 rfl (fun h => absurd ((by decide : (0 : Int32) = 0)) h) (fun _ => ?_)
              refine q_bipush (pc' := 23) ja_C_tell_21 rfl (-2) (by decide) ?_
              exact q_iret ja_C_tell_23 rfl rfl (k8 h2 h4 h10 h12 h14 h15)
            · intro h16
              refine q_iconst (pc' := 12) ja_C_isWord_11 rfl 1 (by decide) ?_
              refine q_goto ja_C_isWord_12 ?_
              refine q_iret ja_C_isWord_16 rfl (by decide) ?_
              show q_W _ _ _ _ 18 [some (.ref 0), some (.int a1), some (.int a2), some (.int a3)] [.int 1] s
              refine q_if_ne (pc' := 21) ja_C_tell_18 rfl (fun _ => ?_) (fun h => absurd h ((by decide : ¬ (1 : Int32) = 0)))
              exact (k9 h2 h4 h10 h12 h14 h16)
set_option maxRecDepth 20000 in
theorem t2_C_tell_24 {G : jv_X} {d : Nat} {B : Option Value → jg_H → Prop} {s : jg_H} (x1 : Int32) (x2 : Int32) (x3 : Int32)
    (k1 : ¬ (s 0 6) = (-1) → (s 0 6) < 0 → x2 < 0 → B (some (.int (-2))) s)
    (k2 : ¬ (s 0 6) = (-1) → (s 0 6) < 0 → ¬ x2 < 0 → ¬ x1 = 2 → ¬ x2 < (s 58 0) → B (some (.int (-2))) s)
    (k3 : ¬ (s 0 6) = (-1) → (s 0 6) < 0 → ¬ x2 < 0 → ¬ x1 = 2 → x2 < (s 58 0) → q_W G (d + 2) jm_C_tell B 50 [some (.ref 0), some (.int x1), some (.int x2), some (.int x3)] [] s)
    (k4 : ¬ (s 0 6) = (-1) → (s 0 6) < 0 → ¬ x2 < 0 → x1 = 2 → ¬ x2 ≤ (s 58 0) → B (some (.int (-2))) s)
    (k5 : ¬ (s 0 6) = (-1) → (s 0 6) < 0 → ¬ x2 < 0 → x1 = 2 → x2 ≤ (s 58 0) → q_W G (d + 2) jm_C_tell B 50 [some (.ref 0), some (.int x1), some (.int x2), some (.int x3)] [] s)
    (k6 : ¬ (s 0 6) = (-1) → ¬ (s 0 6) < 0 → ¬ (s 0 6) < (s 0 3) → x2 < 0 → B (some (.int (-2))) s)
    (k7 : ¬ (s 0 6) = (-1) → ¬ (s 0 6) < 0 → ¬ (s 0 6) < (s 0 3) → ¬ x2 < 0 → ¬ x1 = 2 → ¬ x2 < (s 58 0) → B (some (.int (-2))) s)
    (k8 : ¬ (s 0 6) = (-1) → ¬ (s 0 6) < 0 → ¬ (s 0 6) < (s 0 3) → ¬ x2 < 0 → ¬ x1 = 2 → x2 < (s 58 0) → q_W G (d + 2) jm_C_tell B 50 [some (.ref 0), some (.int x1), some (.int x2), some (.int x3)] [] s)
    (k9 : ¬ (s 0 6) = (-1) → ¬ (s 0 6) < 0 → ¬ (s 0 6) < (s 0 3) → ¬ x2 < 0 → x1 = 2 → ¬ x2 ≤ (s 58 0) → B (some (.int (-2))) s)
    (k10 : ¬ (s 0 6) = (-1) → ¬ (s 0 6) < 0 → ¬ (s 0 6) < (s 0 3) → ¬ x2 < 0 → x1 = 2 → x2 ≤ (s 58 0) → q_W G (d + 2) jm_C_tell B 50 [some (.ref 0), some (.int x1), some (.int x2), some (.int x3)] [] s)
    (k11 : ¬ (s 0 6) = (-1) → ¬ (s 0 6) < 0 → (s 0 6) < (s 0 3) → ¬ (s 0 6) < 8 → x2 < 0 → B (some (.int (-2))) s)
    (k12 : ¬ (s 0 6) = (-1) → ¬ (s 0 6) < 0 → (s 0 6) < (s 0 3) → ¬ (s 0 6) < 8 → ¬ x2 < 0 → ¬ x1 = 2 → ¬ x2 < (s 58 0) → B (some (.int (-2))) s)
    (k13 : ¬ (s 0 6) = (-1) → ¬ (s 0 6) < 0 → (s 0 6) < (s 0 3) → ¬ (s 0 6) < 8 → ¬ x2 < 0 → ¬ x1 = 2 → x2 < (s 58 0) → q_W G (d + 2) jm_C_tell B 50 [some (.ref 0), some (.int x1), some (.int x2), some (.int x3)] [] s)
    (k14 : ¬ (s 0 6) = (-1) → ¬ (s 0 6) < 0 → (s 0 6) < (s 0 3) → ¬ (s 0 6) < 8 → ¬ x2 < 0 → x1 = 2 → ¬ x2 ≤ (s 58 0) → B (some (.int (-2))) s)
    (k15 : ¬ (s 0 6) = (-1) → ¬ (s 0 6) < 0 → (s 0 6) < (s 0 3) → ¬ (s 0 6) < 8 → ¬ x2 < 0 → x1 = 2 → x2 ≤ (s 58 0) → q_W G (d + 2) jm_C_tell B 50 [some (.ref 0), some (.int x1), some (.int x2), some (.int x3)] [] s)
    (k16 : ¬ (s 0 6) = (-1) → ¬ (s 0 6) < 0 → (s 0 6) < (s 0 3) → (s 0 6) < 8 → x2 < 0 → B (some (.int (-2))) s)
    (k17 : ¬ (s 0 6) = (-1) → ¬ (s 0 6) < 0 → (s 0 6) < (s 0 3) → (s 0 6) < 8 → ¬ x2 < 0 → ¬ x1 = 2 → ¬ x2 < (s ((33 + 3 * (s 0 6).toNatClampNeg) + 1) 0) → B (some (.int (-2))) s)
    (k18 : ¬ (s 0 6) = (-1) → ¬ (s 0 6) < 0 → (s 0 6) < (s 0 3) → (s 0 6) < 8 → ¬ x2 < 0 → ¬ x1 = 2 → x2 < (s ((33 + 3 * (s 0 6).toNatClampNeg) + 1) 0) → q_W G (d + 2) jm_C_tell B 50 [some (.ref 0), some (.int x1), some (.int x2), some (.int x3)] [] s)
    (k19 : ¬ (s 0 6) = (-1) → ¬ (s 0 6) < 0 → (s 0 6) < (s 0 3) → (s 0 6) < 8 → ¬ x2 < 0 → x1 = 2 → ¬ x2 ≤ (s ((33 + 3 * (s 0 6).toNatClampNeg) + 1) 0) → B (some (.int (-2))) s)
    (k20 : ¬ (s 0 6) = (-1) → ¬ (s 0 6) < 0 → (s 0 6) < (s 0 3) → (s 0 6) < 8 → ¬ x2 < 0 → x1 = 2 → x2 ≤ (s ((33 + 3 * (s 0 6).toNatClampNeg) + 1) 0) → q_W G (d + 2) jm_C_tell B 50 [some (.ref 0), some (.int x1), some (.int x2), some (.int x3)] [] s)
    (k21 : (s 0 6) = (-1) → B (some (.int (-3))) s) :
    q_W G (d + 2) jm_C_tell B 24 [some (.ref 0), some (.int x1), some (.int x2), some (.int x3)] [] s := by
  refine q_aload_n (pc' := 25) ja_C_tell_24 rfl rfl ?_
  refine q_getf (pc' := 28) (v := .int (s 0 6)) ja_C_tell_25 rfl (by decide) ⟨rfl, by decide⟩ rfl ?_
  refine q_iconst (pc' := 29) ja_C_tell_28 rfl (-1) (by decide) ?_
  refine q_ic_ne (pc' := 32) ja_C_tell_29 rfl ?_ ?_
  · intro h1
    refine q_aload_n (pc' := 36) ja_C_tell_35 rfl rfl ?_
    refine q_virt (pc' := 39) (c := 0) (as := []) (r := []) ja_C_tell_36 rfl rfl rfl (by decide) ⟨rfl, by decide⟩ ?_
    refine q_in (M := jm_C_floor) rfl (Nat.le_of_ble_eq_true rfl) (ls := [some (.ref 0)]) rfl ?_
    refine q_aload_n (pc' := 1) ja_C_floor_0 rfl rfl ?_
    refine q_aload_n (pc' := 2) ja_C_floor_1 rfl rfl ?_
    refine q_getf (pc' := 5) (v := .int (s 0 6)) ja_C_floor_2 rfl (by decide) ⟨rfl, by decide⟩ rfl ?_
    refine q_virt (pc' := 8) (c := 0) (as := [.int (s 0 6)]) (r := []) ja_C_floor_5 rfl rfl rfl (by decide) ⟨rfl, by decide⟩ ?_
    refine q_in (M := jm_C_isBill) rfl (Nat.le_of_ble_eq_true rfl) (ls := [some (.ref 0), some (.int (s 0 6))]) rfl ?_
    refine q_iload_n (pc' := 1) ja_C_isBill_0 rfl rfl ?_
    refine q_if_lt (pc' := 4) ja_C_isBill_1 rfl ?_ ?_
    · intro h2
      refine q_iconst (pc' := 26) ja_C_isBill_25 rfl 0 (by decide) ?_
      refine q_iret ja_C_isBill_26 rfl (by decide) ?_
      show q_W _ _ _ _ 8 [some (.ref 0)] [.int 0] s
      refine q_if_eq (pc' := 11) ja_C_floor_8 rfl (fun _ => ?_) (fun h => absurd ((by decide : (0 : Int32) = 0)) h)
      refine q_aload_n (pc' := 27) ja_C_floor_26 rfl rfl ?_
      refine q_getf (pc' := 30) (v := .ref 58) ja_C_floor_27 rfl (by decide) ⟨rfl, by decide⟩ rfl ?_
      refine q_aret ja_C_floor_30 rfl ?_
      show q_W _ _ _ _ 39 [some (.ref 0), some (.int x1), some (.int x2), some (.int x3)] [.ref 58] s
      refine q_iload_n (pc' := 40) ja_C_tell_39 rfl rfl ?_
      refine q_iload_n (pc' := 41) ja_C_tell_40 rfl rfl ?_
      refine q_virt (pc' := 44) (c := 58) (as := [.int x1, .int x2]) (r := []) ja_C_tell_41 rfl rfl rfl (by decide) ⟨rfl, by decide⟩ ?_
      refine q_in (M := jm_Sections_has) rfl (Nat.le_of_ble_eq_true rfl) (ls := [some (.ref 58), some (.int x1), some (.int x2)]) rfl ?_
      refine q_iload_n (pc' := 1) ja_Sections_has_0 rfl rfl ?_
      refine q_if_lt (pc' := 4) ja_Sections_has_1 rfl ?_ ?_
      · intro h3
        refine q_iconst (pc' := 33) ja_Sections_has_32 rfl 0 (by decide) ?_
        refine q_iret ja_Sections_has_33 rfl (by decide) ?_
        show q_W _ _ _ _ 44 [some (.ref 0), some (.int x1), some (.int x2), some (.int x3)] [.int 0] s
        refine q_if_ne (pc' := 47) ja_C_tell_44 rfl (fun h => absurd ((by decide : (0 : Int32) = 0)) h) (fun _ => ?_)
        refine q_bipush (pc' := 49) ja_C_tell_47 rfl (-2) (by decide) ?_
        exact q_iret ja_C_tell_49 rfl rfl (k1 h1 h2 h3)
      · intro h4
        refine q_iload_n (pc' := 5) ja_Sections_has_4 rfl rfl ?_
        refine q_iconst (pc' := 6) ja_Sections_has_5 rfl 2 (by decide) ?_
        refine q_ic_ne (pc' := 9) ja_Sections_has_6 rfl ?_ ?_
        · intro h5
          refine q_iload_n (pc' := 21) ja_Sections_has_20 rfl rfl ?_
          refine q_aload_n (pc' := 22) ja_Sections_has_21 rfl rfl ?_
          refine q_getf (pc' := 25) (v := .int (s 58 0)) ja_Sections_has_22 rfl (by decide) ⟨rfl, by decide⟩ rfl ?_
          refine q_ic_ge (pc' := 28) ja_Sections_has_25 rfl ?_ ?_
          · intro h6
            refine q_iconst (pc' := 33) ja_Sections_has_32 rfl 0 (by decide) ?_
            refine q_iret ja_Sections_has_33 rfl (by decide) ?_
            show q_W _ _ _ _ 44 [some (.ref 0), some (.int x1), some (.int x2), some (.int x3)] [.int 0] s
            refine q_if_ne (pc' := 47) ja_C_tell_44 rfl (fun h => absurd ((by decide : (0 : Int32) = 0)) h) (fun _ => ?_)
            refine q_bipush (pc' := 49) ja_C_tell_47 rfl (-2) (by decide) ?_
            exact q_iret ja_C_tell_49 rfl rfl (k2 h1 h2 h4 h5 h6)
          · intro h7
            refine q_iconst (pc' := 29) ja_Sections_has_28 rfl 1 (by decide) ?_
            refine q_goto ja_Sections_has_29 ?_
            refine q_iret ja_Sections_has_33 rfl (by decide) ?_
            show q_W _ _ _ _ 44 [some (.ref 0), some (.int x1), some (.int x2), some (.int x3)] [.int 1] s
            refine q_if_ne (pc' := 47) ja_C_tell_44 rfl (fun _ => ?_) (fun h => absurd h ((by decide : ¬ (1 : Int32) = 0)))
            exact (k3 h1 h2 h4 h5 h7)
        · intro h8
          refine q_iload_n (pc' := 10) ja_Sections_has_9 rfl rfl ?_
          refine q_aload_n (pc' := 11) ja_Sections_has_10 rfl rfl ?_
          refine q_getf (pc' := 14) (v := .int (s 58 0)) ja_Sections_has_11 rfl (by decide) ⟨rfl, by decide⟩ rfl ?_
          refine q_ic_gt (pc' := 17) ja_Sections_has_14 rfl ?_ ?_
          · intro h9
            refine q_iconst (pc' := 33) ja_Sections_has_32 rfl 0 (by decide) ?_
            refine q_iret ja_Sections_has_33 rfl (by decide) ?_
            show q_W _ _ _ _ 44 [some (.ref 0), some (.int x1), some (.int x2), some (.int x3)] [.int 0] s
            refine q_if_ne (pc' := 47) ja_C_tell_44 rfl (fun h => absurd ((by decide : (0 : Int32) = 0)) h) (fun _ => ?_)
            refine q_bipush (pc' := 49) ja_C_tell_47 rfl (-2) (by decide) ?_
            exact q_iret ja_C_tell_49 rfl rfl (k4 h1 h2 h4 h8 h9)
          · intro h10
            refine q_goto ja_Sections_has_17 ?_
            refine q_iconst (pc' := 29) ja_Sections_has_28 rfl 1 (by decide) ?_
            refine q_goto ja_Sections_has_29 ?_
            refine q_iret ja_Sections_has_33 rfl (by decide) ?_
            show q_W _ _ _ _ 44 [some (.ref 0), some (.int x1), some (.int x2), some (.int x3)] [.int 1] s
            refine q_if_ne (pc' := 47) ja_C_tell_44 rfl (fun _ => ?_) (fun h => absurd h ((by decide : ¬ (1 : Int32) = 0)))
            exact (k5 h1 h2 h4 h8 h10)
    · intro h11
      refine q_iload_n (pc' := 5) ja_C_isBill_4 rfl rfl ?_
      refine q_aload_n (pc' := 6) ja_C_isBill_5 rfl rfl ?_
      refine q_getf (pc' := 9) (v := .int (s 0 3)) ja_C_isBill_6 rfl (by decide) ⟨rfl, by decide⟩ rfl ?_
      refine q_ic_ge (pc' := 12) ja_C_isBill_9 rfl ?_ ?_
      · intro h12
        refine q_iconst (pc' := 26) ja_C_isBill_25 rfl 0 (by decide) ?_
        refine q_iret ja_C_isBill_26 rfl (by decide) ?_
        show q_W _ _ _ _ 8 [some (.ref 0)] [.int 0] s
        refine q_if_eq (pc' := 11) ja_C_floor_8 rfl (fun _ => ?_) (fun h => absurd ((by decide : (0 : Int32) = 0)) h)
        refine q_aload_n (pc' := 27) ja_C_floor_26 rfl rfl ?_
        refine q_getf (pc' := 30) (v := .ref 58) ja_C_floor_27 rfl (by decide) ⟨rfl, by decide⟩ rfl ?_
        refine q_aret ja_C_floor_30 rfl ?_
        show q_W _ _ _ _ 39 [some (.ref 0), some (.int x1), some (.int x2), some (.int x3)] [.ref 58] s
        refine q_iload_n (pc' := 40) ja_C_tell_39 rfl rfl ?_
        refine q_iload_n (pc' := 41) ja_C_tell_40 rfl rfl ?_
        refine q_virt (pc' := 44) (c := 58) (as := [.int x1, .int x2]) (r := []) ja_C_tell_41 rfl rfl rfl (by decide) ⟨rfl, by decide⟩ ?_
        refine q_in (M := jm_Sections_has) rfl (Nat.le_of_ble_eq_true rfl) (ls := [some (.ref 58), some (.int x1), some (.int x2)]) rfl ?_
        refine q_iload_n (pc' := 1) ja_Sections_has_0 rfl rfl ?_
        refine q_if_lt (pc' := 4) ja_Sections_has_1 rfl ?_ ?_
        · intro h13
          refine q_iconst (pc' := 33) ja_Sections_has_32 rfl 0 (by decide) ?_
          refine q_iret ja_Sections_has_33 rfl (by decide) ?_
          show q_W _ _ _ _ 44 [some (.ref 0), some (.int x1), some (.int x2), some (.int x3)] [.int 0] s
          refine q_if_ne (pc' := 47) ja_C_tell_44 rfl (fun h => absurd ((by decide : (0 : Int32) = 0)) h) (fun _ => ?_)
          refine q_bipush (pc' := 49) ja_C_tell_47 rfl (-2) (by decide) ?_
          exact q_iret ja_C_tell_49 rfl rfl (k6 h1 h11 h12 h13)
        · intro h14
          refine q_iload_n (pc' := 5) ja_Sections_has_4 rfl rfl ?_
          refine q_iconst (pc' := 6) ja_Sections_has_5 rfl 2 (by decide) ?_
          refine q_ic_ne (pc' := 9) ja_Sections_has_6 rfl ?_ ?_
          · intro h15
            refine q_iload_n (pc' := 21) ja_Sections_has_20 rfl rfl ?_
            refine q_aload_n (pc' := 22) ja_Sections_has_21 rfl rfl ?_
            refine q_getf (pc' := 25) (v := .int (s 58 0)) ja_Sections_has_22 rfl (by decide) ⟨rfl, by decide⟩ rfl ?_
            refine q_ic_ge (pc' := 28) ja_Sections_has_25 rfl ?_ ?_
            · intro h16
              refine q_iconst (pc' := 33) ja_Sections_has_32 rfl 0 (by decide) ?_
              refine q_iret ja_Sections_has_33 rfl (by decide) ?_
              show q_W _ _ _ _ 44 [some (.ref 0), some (.int x1), some (.int x2), some (.int x3)] [.int 0] s
              refine q_if_ne (pc' := 47) ja_C_tell_44 rfl (fun h => absurd ((by decide : (0 : Int32) = 0)) h) (fun _ => ?_)
              refine q_bipush (pc' := 49) ja_C_tell_47 rfl (-2) (by decide) ?_
              exact q_iret ja_C_tell_49 rfl rfl (k7 h1 h11 h12 h14 h15 h16)
            · intro h17
              refine q_iconst (pc' := 29) ja_Sections_has_28 rfl 1 (by decide) ?_
              refine q_goto ja_Sections_has_29 ?_
              refine q_iret ja_Sections_has_33 rfl (by decide) ?_
              show q_W _ _ _ _ 44 [some (.ref 0), some (.int x1), some (.int x2), some (.int x3)] [.int 1] s
              refine q_if_ne (pc' := 47) ja_C_tell_44 rfl (fun _ => ?_) (fun h => absurd h ((by decide : ¬ (1 : Int32) = 0)))
              exact (k8 h1 h11 h12 h14 h15 h17)
          · intro h18
            refine q_iload_n (pc' := 10) ja_Sections_has_9 rfl rfl ?_
            refine q_aload_n (pc' := 11) ja_Sections_has_10 rfl rfl ?_
            refine q_getf (pc' := 14) (v := .int (s 58 0)) ja_Sections_has_11 rfl (by decide) ⟨rfl, by decide⟩ rfl ?_
            refine q_ic_gt (pc' := 17) ja_Sections_has_14 rfl ?_ ?_
            · intro h19
              refine q_iconst (pc' := 33) ja_Sections_has_32 rfl 0 (by decide) ?_
              refine q_iret ja_Sections_has_33 rfl (by decide) ?_
              show q_W _ _ _ _ 44 [some (.ref 0), some (.int x1), some (.int x2), some (.int x3)] [.int 0] s
              refine q_if_ne (pc' := 47) ja_C_tell_44 rfl (fun h => absurd ((by decide : (0 : Int32) = 0)) h) (fun _ => ?_)
              refine q_bipush (pc' := 49) ja_C_tell_47 rfl (-2) (by decide) ?_
              exact q_iret ja_C_tell_49 rfl rfl (k9 h1 h11 h12 h14 h18 h19)
            · intro h20
              refine q_goto ja_Sections_has_17 ?_
              refine q_iconst (pc' := 29) ja_Sections_has_28 rfl 1 (by decide) ?_
              refine q_goto ja_Sections_has_29 ?_
              refine q_iret ja_Sections_has_33 rfl (by decide) ?_
              show q_W _ _ _ _ 44 [some (.ref 0), some (.int x1), some (.int x2), some (.int x3)] [.int 1] s
              refine q_if_ne (pc' := 47) ja_C_tell_44 rfl (fun _ => ?_) (fun h => absurd h ((by decide : ¬ (1 : Int32) = 0)))
              exact (k10 h1 h11 h12 h14 h18 h20)
      · intro h21
        refine q_iload_n (pc' := 13) ja_C_isBill_12 rfl rfl ?_
        refine q_aload_n (pc' := 14) ja_C_isBill_13 rfl rfl ?_
        refine q_getf (pc' := 17) (v := .ref 32) ja_C_isBill_14 rfl (by decide) ⟨rfl, by decide⟩ rfl ?_
        refine q_alen (pc' := 18) ja_C_isBill_17 rfl (by decide) (kd := 17) (l := 8) rfl (by decide) (v := 8) (by decide) ?_
        refine q_ic_ge (pc' := 21) ja_C_isBill_18 rfl ?_ ?_
        · intro h22
          refine q_iconst (pc' := 26) ja_C_isBill_25 rfl 0 (by decide) ?_
          refine q_iret ja_C_isBill_26 rfl (by decide) ?_
          show q_W _ _ _ _ 8 [some (.ref 0)] [.int 0] s
          refine q_if_eq (pc' := 11) ja_C_floor_8 rfl (fun _ => ?_) (fun h => absurd ((by decide : (0 : Int32) = 0)) h)
          refine q_aload_n (pc' := 27) ja_C_floor_26 rfl rfl ?_
          refine q_getf (pc' := 30) (v := .ref 58) ja_C_floor_27 rfl (by decide) ⟨rfl, by decide⟩ rfl ?_
          refine q_aret ja_C_floor_30 rfl ?_
          show q_W _ _ _ _ 39 [some (.ref 0), some (.int x1), some (.int x2), some (.int x3)] [.ref 58] s
          refine q_iload_n (pc' := 40) ja_C_tell_39 rfl rfl ?_
          refine q_iload_n (pc' := 41) ja_C_tell_40 rfl rfl ?_
          refine q_virt (pc' := 44) (c := 58) (as := [.int x1, .int x2]) (r := []) ja_C_tell_41 rfl rfl rfl (by decide) ⟨rfl, by decide⟩ ?_
          refine q_in (M := jm_Sections_has) rfl (Nat.le_of_ble_eq_true rfl) (ls := [some (.ref 58), some (.int x1), some (.int x2)]) rfl ?_
          refine q_iload_n (pc' := 1) ja_Sections_has_0 rfl rfl ?_
          refine q_if_lt (pc' := 4) ja_Sections_has_1 rfl ?_ ?_
          · intro h23
            refine q_iconst (pc' := 33) ja_Sections_has_32 rfl 0 (by decide) ?_
            refine q_iret ja_Sections_has_33 rfl (by decide) ?_
            show q_W _ _ _ _ 44 [some (.ref 0), some (.int x1), some (.int x2), some (.int x3)] [.int 0] s
            refine q_if_ne (pc' := 47) ja_C_tell_44 rfl (fun h => absurd ((by decide : (0 : Int32) = 0)) h) (fun _ => ?_)
            refine q_bipush (pc' := 49) ja_C_tell_47 rfl (-2) (by decide) ?_
            exact q_iret ja_C_tell_49 rfl rfl (k11 h1 h11 h21 h22 h23)
          · intro h24
            refine q_iload_n (pc' := 5) ja_Sections_has_4 rfl rfl ?_
            refine q_iconst (pc' := 6) ja_Sections_has_5 rfl 2 (by decide) ?_
            refine q_ic_ne (pc' := 9) ja_Sections_has_6 rfl ?_ ?_
            · intro h25
              refine q_iload_n (pc' := 21) ja_Sections_has_20 rfl rfl ?_
              refine q_aload_n (pc' := 22) ja_Sections_has_21 rfl rfl ?_
              refine q_getf (pc' := 25) (v := .int (s 58 0)) ja_Sections_has_22 rfl (by decide) ⟨rfl, by decide⟩ rfl ?_
              refine q_ic_ge (pc' := 28) ja_Sections_has_25 rfl ?_ ?_
              · intro h26
                refine q_iconst (pc' := 33) ja_Sections_has_32 rfl 0 (by decide) ?_
                refine q_iret ja_Sections_has_33 rfl (by decide) ?_
                show q_W _ _ _ _ 44 [some (.ref 0), some (.int x1), some (.int x2), some (.int x3)] [.int 0] s
                refine q_if_ne (pc' := 47) ja_C_tell_44 rfl (fun h => absurd ((by decide : (0 : Int32) = 0)) h) (fun _ => ?_)
                refine q_bipush (pc' := 49) ja_C_tell_47 rfl (-2) (by decide) ?_
                exact q_iret ja_C_tell_49 rfl rfl (k12 h1 h11 h21 h22 h24 h25 h26)
              · intro h27
                refine q_iconst (pc' := 29) ja_Sections_has_28 rfl 1 (by decide) ?_
                refine q_goto ja_Sections_has_29 ?_
                refine q_iret ja_Sections_has_33 rfl (by decide) ?_
                show q_W _ _ _ _ 44 [some (.ref 0), some (.int x1), some (.int x2), some (.int x3)] [.int 1] s
                refine q_if_ne (pc' := 47) ja_C_tell_44 rfl (fun _ => ?_) (fun h => absurd h ((by decide : ¬ (1 : Int32) = 0)))
                exact (k13 h1 h11 h21 h22 h24 h25 h27)
            · intro h28
              refine q_iload_n (pc' := 10) ja_Sections_has_9 rfl rfl ?_
              refine q_aload_n (pc' := 11) ja_Sections_has_10 rfl rfl ?_
              refine q_getf (pc' := 14) (v := .int (s 58 0)) ja_Sections_has_11 rfl (by decide) ⟨rfl, by decide⟩ rfl ?_
              refine q_ic_gt (pc' := 17) ja_Sections_has_14 rfl ?_ ?_
              · intro h29
                refine q_iconst (pc' := 33) ja_Sections_has_32 rfl 0 (by decide) ?_
                refine q_iret ja_Sections_has_33 rfl (by decide) ?_
                show q_W _ _ _ _ 44 [some (.ref 0), some (.int x1), some (.int x2), some (.int x3)] [.int 0] s
                refine q_if_ne (pc' := 47) ja_C_tell_44 rfl (fun h => absurd ((by decide : (0 : Int32) = 0)) h) (fun _ => ?_)
                refine q_bipush (pc' := 49) ja_C_tell_47 rfl (-2) (by decide) ?_
                exact q_iret ja_C_tell_49 rfl rfl (k14 h1 h11 h21 h22 h24 h28 h29)
              · intro h30
                refine q_goto ja_Sections_has_17 ?_
                refine q_iconst (pc' := 29) ja_Sections_has_28 rfl 1 (by decide) ?_
                refine q_goto ja_Sections_has_29 ?_
                refine q_iret ja_Sections_has_33 rfl (by decide) ?_
                show q_W _ _ _ _ 44 [some (.ref 0), some (.int x1), some (.int x2), some (.int x3)] [.int 1] s
                refine q_if_ne (pc' := 47) ja_C_tell_44 rfl (fun _ => ?_) (fun h => absurd h ((by decide : ¬ (1 : Int32) = 0)))
                exact (k15 h1 h11 h21 h22 h24 h28 h30)
        · intro h31
          refine q_iconst (pc' := 22) ja_C_isBill_21 rfl 1 (by decide) ?_
          refine q_goto ja_C_isBill_22 ?_
          refine q_iret ja_C_isBill_26 rfl (by decide) ?_
          show q_W _ _ _ _ 8 [some (.ref 0)] [.int 1] s
          refine q_if_eq (pc' := 11) ja_C_floor_8 rfl (fun h => absurd h ((by decide : ¬ (1 : Int32) = 0))) (fun _ => ?_)
          refine q_aload_n (pc' := 12) ja_C_floor_11 rfl rfl ?_
          refine q_getf (pc' := 15) (v := .ref 32) ja_C_floor_12 rfl (by decide) ⟨rfl, by decide⟩ rfl ?_
          refine q_aload_n (pc' := 16) ja_C_floor_15 rfl rfl ?_
          refine q_getf (pc' := 19) (v := .int (s 0 6)) ja_C_floor_16 rfl (by decide) ⟨rfl, by decide⟩ rfl ?_
          refine q_aald (pc' := 20) (v := .ref (33 + 3 * (s 0 6).toNatClampNeg)) ja_C_floor_19 rfl (by decide) (kd := 17) (l := 8) rfl (by decide) (q_inr (l := 8) (by decide) h11 h31) (f_A32 (f_in (q_inr (l := 8) (by decide) h11 h31))) ?_
          refine q_getf (pc' := 23) (v := .ref ((33 + 3 * (s 0 6).toNatClampNeg) + 1)) ja_C_floor_20 rfl (f_1_c (f_m32 (f_in (q_inr (l := 8) (by decide) h11 h31)))) ⟨by rw [f_1_k (f_m32 (f_in (q_inr (l := 8) (by decide) h11 h31)))], by decide⟩ (f_1_g2 (f_m32 (f_in (q_inr (l := 8) (by decide) h11 h31)))) ?_
          refine q_goto ja_C_floor_23 ?_
          refine q_aret ja_C_floor_30 rfl ?_
          show q_W _ _ _ _ 39 [some (.ref 0), some (.int x1), some (.int x2), some (.int x3)] [.ref ((33 + 3 * (s 0 6).toNatClampNeg) + 1)] s
          refine q_iload_n (pc' := 40) ja_C_tell_39 rfl rfl ?_
          refine q_iload_n (pc' := 41) ja_C_tell_40 rfl rfl ?_
          refine q_virt (pc' := 44) (c := ((33 + 3 * (s 0 6).toNatClampNeg) + 1)) (as := [.int x1, .int x2]) (r := []) ja_C_tell_41 rfl rfl rfl (f_8_c (f_1_s2 (f_m32 (f_in (q_inr (l := 8) (by decide) h11 h31))))) ⟨by rw [f_8_k (f_1_s2 (f_m32 (f_in (q_inr (l := 8) (by decide) h11 h31))))], by decide⟩ ?_
          refine q_in (M := jm_Sections_has) rfl (Nat.le_of_ble_eq_true rfl) (ls := [some (.ref ((33 + 3 * (s 0 6).toNatClampNeg) + 1)), some (.int x1), some (.int x2)]) rfl ?_
          refine q_iload_n (pc' := 1) ja_Sections_has_0 rfl rfl ?_
          refine q_if_lt (pc' := 4) ja_Sections_has_1 rfl ?_ ?_
          · intro h32
            refine q_iconst (pc' := 33) ja_Sections_has_32 rfl 0 (by decide) ?_
            refine q_iret ja_Sections_has_33 rfl (by decide) ?_
            show q_W _ _ _ _ 44 [some (.ref 0), some (.int x1), some (.int x2), some (.int x3)] [.int 0] s
            refine q_if_ne (pc' := 47) ja_C_tell_44 rfl (fun h => absurd ((by decide : (0 : Int32) = 0)) h) (fun _ => ?_)
            refine q_bipush (pc' := 49) ja_C_tell_47 rfl (-2) (by decide) ?_
            exact q_iret ja_C_tell_49 rfl rfl (k16 h1 h11 h21 h31 h32)
          · intro h33
            refine q_iload_n (pc' := 5) ja_Sections_has_4 rfl rfl ?_
            refine q_iconst (pc' := 6) ja_Sections_has_5 rfl 2 (by decide) ?_
            refine q_ic_ne (pc' := 9) ja_Sections_has_6 rfl ?_ ?_
            · intro h34
              refine q_iload_n (pc' := 21) ja_Sections_has_20 rfl rfl ?_
              refine q_aload_n (pc' := 22) ja_Sections_has_21 rfl rfl ?_
              refine q_getf (pc' := 25) (v := .int (s ((33 + 3 * (s 0 6).toNatClampNeg) + 1) 0)) ja_Sections_has_22 rfl (f_8_c (f_1_s2 (f_m32 (f_in (q_inr (l := 8) (by decide) h11 h31))))) ⟨by rw [f_8_k (f_1_s2 (f_m32 (f_in (q_inr (l := 8) (by decide) h11 h31))))], by decide⟩ (f_i (f_8_k (f_1_s2 (f_m32 (f_in (q_inr (l := 8) (by decide) h11 h31))))) rfl) ?_
              refine q_ic_ge (pc' := 28) ja_Sections_has_25 rfl ?_ ?_
              · intro h35
                refine q_iconst (pc' := 33) ja_Sections_has_32 rfl 0 (by decide) ?_
                refine q_iret ja_Sections_has_33 rfl (by decide) ?_
                show q_W _ _ _ _ 44 [some (.ref 0), some (.int x1), some (.int x2), some (.int x3)] [.int 0] s
                refine q_if_ne (pc' := 47) ja_C_tell_44 rfl (fun h => absurd ((by decide : (0 : Int32) = 0)) h) (fun _ => ?_)
                refine q_bipush (pc' := 49) ja_C_tell_47 rfl (-2) (by decide) ?_
                exact q_iret ja_C_tell_49 rfl rfl (k17 h1 h11 h21 h31 h33 h34 h35)
              · intro h36
                refine q_iconst (pc' := 29) ja_Sections_has_28 rfl 1 (by decide) ?_
                refine q_goto ja_Sections_has_29 ?_
                refine q_iret ja_Sections_has_33 rfl (by decide) ?_
                show q_W _ _ _ _ 44 [some (.ref 0), some (.int x1), some (.int x2), some (.int x3)] [.int 1] s
                refine q_if_ne (pc' := 47) ja_C_tell_44 rfl (fun _ => ?_) (fun h => absurd h ((by decide : ¬ (1 : Int32) = 0)))
                exact (k18 h1 h11 h21 h31 h33 h34 h36)
            · intro h37
              refine q_iload_n (pc' := 10) ja_Sections_has_9 rfl rfl ?_
              refine q_aload_n (pc' := 11) ja_Sections_has_10 rfl rfl ?_
              refine q_getf (pc' := 14) (v := .int (s ((33 + 3 * (s 0 6).toNatClampNeg) + 1) 0)) ja_Sections_has_11 rfl (f_8_c (f_1_s2 (f_m32 (f_in (q_inr (l := 8) (by decide) h11 h31))))) ⟨by rw [f_8_k (f_1_s2 (f_m32 (f_in (q_inr (l := 8) (by decide) h11 h31))))], by decide⟩ (f_i (f_8_k (f_1_s2 (f_m32 (f_in (q_inr (l := 8) (by decide) h11 h31))))) rfl) ?_
              refine q_ic_gt (pc' := 17) ja_Sections_has_14 rfl ?_ ?_
              · intro h38
                refine q_iconst (pc' := 33) ja_Sections_has_32 rfl 0 (by decide) ?_
                refine q_iret ja_Sections_has_33 rfl (by decide) ?_
                show q_W _ _ _ _ 44 [some (.ref 0), some (.int x1), some (.int x2), some (.int x3)] [.int 0] s
                refine q_if_ne (pc' := 47) ja_C_tell_44 rfl (fun h => absurd ((by decide : (0 : Int32) = 0)) h) (fun _ => ?_)
                refine q_bipush (pc' := 49) ja_C_tell_47 rfl (-2) (by decide) ?_
                exact q_iret ja_C_tell_49 rfl rfl (k19 h1 h11 h21 h31 h33 h37 h38)
              · intro h39
                refine q_goto ja_Sections_has_17 ?_
                refine q_iconst (pc' := 29) ja_Sections_has_28 rfl 1 (by decide) ?_
                refine q_goto ja_Sections_has_29 ?_
                refine q_iret ja_Sections_has_33 rfl (by decide) ?_
                show q_W _ _ _ _ 44 [some (.ref 0), some (.int x1), some (.int x2), some (.int x3)] [.int 1] s
                refine q_if_ne (pc' := 47) ja_C_tell_44 rfl (fun _ => ?_) (fun h => absurd h ((by decide : ¬ (1 : Int32) = 0)))
                exact (k20 h1 h11 h21 h31 h33 h37 h39)
  · intro h40
    refine q_bipush (pc' := 34) ja_C_tell_32 rfl (-3) (by decide) ?_
    exact q_iret ja_C_tell_34 rfl rfl (k21 h40)
set_option maxRecDepth 20000 in
theorem t2_C_tell_50 {G : jv_X} {d : Nat} {B : Option Value → jg_H → Prop} {s : jg_H} (x1 : Int32) (x2 : Int32) (x3 : Int32)
    (k1 : (s 66 0) < (s 66 1) → x1 = 2 → (s 66 0) < 0 → B (some (.int (s 66 0))) s)
    (k2 : (s 66 0) < (s 66 1) → x1 = 2 → ¬ (s 66 0) < 0 → jv_in (s 66 0) 5 = true)
    (k3 : (s 66 0) < (s 66 1) → x1 = 2 → ¬ (s 66 0) < 0 → ∀ s1 : jg_H, s1 = jg_up s 67 (s 66 0).toNatClampNeg x1 → jv_in (s1 66 0) 5 = true)
    (k4 : (s 66 0) < (s 66 1) → x1 = 2 → ¬ (s 66 0) < 0 → ∀ s1 : jg_H, s1 = jg_up s 67 (s 66 0).toNatClampNeg x1 → ∀ s2 : jg_H, s2 = jg_up s1 68 (s1 66 0).toNatClampNeg (-1) → jv_in (s2 66 0) 5 = true)
    (k5 : (s 66 0) < (s 66 1) → x1 = 2 → ¬ (s 66 0) < 0 → ∀ s1 : jg_H, s1 = jg_up s 67 (s 66 0).toNatClampNeg x1 → ∀ s2 : jg_H, s2 = jg_up s1 68 (s1 66 0).toNatClampNeg (-1) → ∀ s3 : jg_H, s3 = jg_up s2 69 (s2 66 0).toNatClampNeg x2 → jv_in (s3 66 0) 5 = true)
    (k6 : (s 66 0) < (s 66 1) → x1 = 2 → ¬ (s 66 0) < 0 → ∀ s1 : jg_H, s1 = jg_up s 67 (s 66 0).toNatClampNeg x1 → ∀ s2 : jg_H, s2 = jg_up s1 68 (s1 66 0).toNatClampNeg (-1) → ∀ s3 : jg_H, s3 = jg_up s2 69 (s2 66 0).toNatClampNeg x2 → ∀ s4 : jg_H, s4 = jg_up s3 70 (s3 66 0).toNatClampNeg x3 → ∀ s5 : jg_H, s5 = jg_up s4 66 0 ((s4 66 0) + 1) → B (some (.int (s5 66 0))) s5)
    (k7 : (s 66 0) < (s 66 1) → ¬ x1 = 2 → ¬ x1 = 3 → (s 66 0) < 0 → B (some (.int (s 66 0))) s)
    (k8 : (s 66 0) < (s 66 1) → ¬ x1 = 2 → ¬ x1 = 3 → ¬ (s 66 0) < 0 → jv_in (s 66 0) 5 = true)
    (k9 : (s 66 0) < (s 66 1) → ¬ x1 = 2 → ¬ x1 = 3 → ¬ (s 66 0) < 0 → ∀ s6 : jg_H, s6 = jg_up s 67 (s 66 0).toNatClampNeg x1 → jv_in (s6 66 0) 5 = true)
    (k10 : (s 66 0) < (s 66 1) → ¬ x1 = 2 → ¬ x1 = 3 → ¬ (s 66 0) < 0 → ∀ s6 : jg_H, s6 = jg_up s 67 (s 66 0).toNatClampNeg x1 → ∀ s7 : jg_H, s7 = jg_up s6 68 (s6 66 0).toNatClampNeg (-1) → jv_in (s7 66 0) 5 = true)
    (k11 : (s 66 0) < (s 66 1) → ¬ x1 = 2 → ¬ x1 = 3 → ¬ (s 66 0) < 0 → ∀ s6 : jg_H, s6 = jg_up s 67 (s 66 0).toNatClampNeg x1 → ∀ s7 : jg_H, s7 = jg_up s6 68 (s6 66 0).toNatClampNeg (-1) → ∀ s8 : jg_H, s8 = jg_up s7 69 (s7 66 0).toNatClampNeg x2 → jv_in (s8 66 0) 5 = true)
    (k12 : (s 66 0) < (s 66 1) → ¬ x1 = 2 → ¬ x1 = 3 → ¬ (s 66 0) < 0 → ∀ s6 : jg_H, s6 = jg_up s 67 (s 66 0).toNatClampNeg x1 → ∀ s7 : jg_H, s7 = jg_up s6 68 (s6 66 0).toNatClampNeg (-1) → ∀ s8 : jg_H, s8 = jg_up s7 69 (s7 66 0).toNatClampNeg x2 → ∀ s9 : jg_H, s9 = jg_up s8 70 (s8 66 0).toNatClampNeg (-1) → ∀ s10 : jg_H, s10 = jg_up s9 66 0 ((s9 66 0) + 1) → B (some (.int (s10 66 0))) s10)
    (k13 : (s 66 0) < (s 66 1) → ¬ x1 = 2 → x1 = 3 → (s 66 0) < 0 → B (some (.int (s 66 0))) s)
    (k14 : (s 66 0) < (s 66 1) → ¬ x1 = 2 → x1 = 3 → ¬ (s 66 0) < 0 → jv_in (s 66 0) 5 = true)
    (k15 : (s 66 0) < (s 66 1) → ¬ x1 = 2 → x1 = 3 → ¬ (s 66 0) < 0 → ∀ s11 : jg_H, s11 = jg_up s 67 (s 66 0).toNatClampNeg x1 → jv_in (s11 66 0) 5 = true)
    (k16 : (s 66 0) < (s 66 1) → ¬ x1 = 2 → x1 = 3 → ¬ (s 66 0) < 0 → ∀ s11 : jg_H, s11 = jg_up s 67 (s 66 0).toNatClampNeg x1 → ∀ s12 : jg_H, s12 = jg_up s11 68 (s11 66 0).toNatClampNeg (-1) → jv_in (s12 66 0) 5 = true)
    (k17 : (s 66 0) < (s 66 1) → ¬ x1 = 2 → x1 = 3 → ¬ (s 66 0) < 0 → ∀ s11 : jg_H, s11 = jg_up s 67 (s 66 0).toNatClampNeg x1 → ∀ s12 : jg_H, s12 = jg_up s11 68 (s11 66 0).toNatClampNeg (-1) → ∀ s13 : jg_H, s13 = jg_up s12 69 (s12 66 0).toNatClampNeg x2 → jv_in (s13 66 0) 5 = true)
    (k18 : (s 66 0) < (s 66 1) → ¬ x1 = 2 → x1 = 3 → ¬ (s 66 0) < 0 → ∀ s11 : jg_H, s11 = jg_up s 67 (s 66 0).toNatClampNeg x1 → ∀ s12 : jg_H, s12 = jg_up s11 68 (s11 66 0).toNatClampNeg (-1) → ∀ s13 : jg_H, s13 = jg_up s12 69 (s12 66 0).toNatClampNeg x2 → ∀ s14 : jg_H, s14 = jg_up s13 70 (s13 66 0).toNatClampNeg x3 → ∀ s15 : jg_H, s15 = jg_up s14 66 0 ((s14 66 0) + 1) → B (some (.int (s15 66 0))) s15)
    (k19 : ¬ (s 66 0) < (s 66 1) → B (some (.int (-4))) s) :
    q_W G (d + 2) jm_C_tell B 50 [some (.ref 0), some (.int x1), some (.int x2), some (.int x3)] [] s := by
  refine q_aload_n (pc' := 51) ja_C_tell_50 rfl rfl ?_
  refine q_getf (pc' := 54) (v := .ref 65) ja_C_tell_51 rfl (by decide) ⟨rfl, by decide⟩ rfl ?_
  refine q_getf (pc' := 57) (v := .ref 66) ja_C_tell_54 rfl (by decide) ⟨rfl, by decide⟩ rfl ?_
  refine q_virt (pc' := 60) (c := 66) (as := []) (r := []) ja_C_tell_57 rfl rfl rfl (by decide) ⟨rfl, by decide⟩ ?_
  refine q_in (M := jm_Motions_isFull) rfl (Nat.le_of_ble_eq_true rfl) (ls := [some (.ref 66)]) rfl ?_
  refine q_aload_n (pc' := 1) ja_Motions_isFull_0 rfl rfl ?_
  refine q_getf (pc' := 4) (v := .int (s 66 0)) ja_Motions_isFull_1 rfl (by decide) ⟨rfl, by decide⟩ rfl ?_
  refine q_aload_n (pc' := 5) ja_Motions_isFull_4 rfl rfl ?_
  refine q_getf (pc' := 8) (v := .int (s 66 1)) ja_Motions_isFull_5 rfl (by decide) ⟨rfl, by decide⟩ rfl ?_
  refine q_ic_lt (pc' := 11) ja_Motions_isFull_8 rfl ?_ ?_
  · intro h1
    refine q_iconst (pc' := 16) ja_Motions_isFull_15 rfl 0 (by decide) ?_
    refine q_iret ja_Motions_isFull_16 rfl (by decide) ?_
    show q_W _ _ _ _ 60 [some (.ref 0), some (.int x1), some (.int x2), some (.int x3)] [.int 0] s
    refine q_if_eq (pc' := 63) ja_C_tell_60 rfl (fun _ => ?_) (fun h => absurd ((by decide : (0 : Int32) = 0)) h)
    refine q_aload_n (pc' := 67) ja_C_tell_66 rfl rfl ?_
    refine q_getf (pc' := 70) (v := .ref 65) ja_C_tell_67 rfl (by decide) ⟨rfl, by decide⟩ rfl ?_
    refine q_getf (pc' := 73) (v := .ref 66) ja_C_tell_70 rfl (by decide) ⟨rfl, by decide⟩ rfl ?_
    refine q_iload_n (pc' := 74) ja_C_tell_73 rfl rfl ?_
    refine q_iconst (pc' := 75) ja_C_tell_74 rfl (-1) (by decide) ?_
    refine q_iload_n (pc' := 76) ja_C_tell_75 rfl rfl ?_
    refine q_iload_n (pc' := 77) ja_C_tell_76 rfl rfl ?_
    refine q_stat (pc' := 80) (as := [.int x1]) (r := [.int x2, .int (-1), .int x1, .ref 66]) ja_C_tell_77 rfl (by decide) rfl rfl ?_
    refine q_in (M := jm_C_takesWord) rfl (Nat.le_of_ble_eq_true rfl) (ls := [some (.int x1)]) rfl ?_
    refine q_iload_n (pc' := 1) ja_C_takesWord_0 rfl rfl ?_
    refine q_iconst (pc' := 2) ja_C_takesWord_1 rfl 2 (by decide) ?_
    refine q_ic_eq (pc' := 5) ja_C_takesWord_2 rfl ?_ ?_
    · intro h2
      refine q_iconst (pc' := 11) ja_C_takesWord_10 rfl 1 (by decide) ?_
      refine q_goto ja_C_takesWord_11 ?_
      refine q_iret ja_C_takesWord_15 rfl (by decide) ?_
      show q_W _ _ _ _ 80 [some (.ref 0), some (.int x1), some (.int x2), some (.int x3)] [.int 1, .int x2, .int (-1), .int x1, .ref 66] s
      refine q_if_eq (pc' := 83) ja_C_tell_80 rfl (fun h => absurd h ((by decide : ¬ (1 : Int32) = 0))) (fun _ => ?_)
      refine q_iload_n (pc' := 84) ja_C_tell_83 rfl rfl ?_
      refine q_goto ja_C_tell_84 ?_
      refine q_virt (pc' := 91) (c := 66) (as := [.int x1, .int (-1), .int x2, .int x3]) (r := []) ja_C_tell_88 rfl rfl rfl (by decide) ⟨rfl, by decide⟩ ?_
      refine q_in (M := jm_Motions_push) rfl (Nat.le_of_ble_eq_true rfl) (ls := [some (.ref 66), some (.int x1), some (.int (-1)), some (.int x2), some (.int x3)]) rfl ?_
      refine q_aload_n (pc' := 1) ja_Motions_push_0 rfl rfl ?_
      refine q_getf (pc' := 4) (v := .int (s 66 0)) ja_Motions_push_1 rfl (by decide) ⟨rfl, by decide⟩ rfl ?_
      refine q_if_lt (pc' := 7) ja_Motions_push_4 rfl ?_ ?_
      · intro h3
        refine q_vret ja_Motions_push_14 rfl ?_
        show q_W _ _ _ _ 91 [some (.ref 0), some (.int x1), some (.int x2), some (.int x3)] [] s
        refine q_aload_n (pc' := 92) ja_C_tell_91 rfl rfl ?_
        refine q_getf (pc' := 95) (v := .ref 65) ja_C_tell_92 rfl (by decide) ⟨rfl, by decide⟩ rfl ?_
        refine q_getf (pc' := 98) (v := .ref 66) ja_C_tell_95 rfl (by decide) ⟨rfl, by decide⟩ rfl ?_
        refine q_getf (pc' := 101) (v := .int (s 66 0)) ja_C_tell_98 rfl (by decide) ⟨rfl, by decide⟩ rfl ?_
        exact q_iret ja_C_tell_101 rfl rfl (k1 h1 h2 h3)
      · intro h4
        refine q_aload_n (pc' := 8) ja_Motions_push_7 rfl rfl ?_
        refine q_virt (pc' := 11) (c := 66) (as := []) (r := []) ja_Motions_push_8 rfl rfl rfl (by decide) ⟨rfl, by decide⟩ ?_
        refine q_in (M := jm_Motions_isFull) rfl (Nat.le_of_ble_eq_true rfl) (ls := [some (.ref 66)]) rfl ?_
        refine q_aload_n (pc' := 1) ja_Motions_isFull_0 rfl rfl ?_
        refine q_getf (pc' := 4) (v := .int (s 66 0)) ja_Motions_isFull_1 rfl (by decide) ⟨rfl, by decide⟩ rfl ?_
        refine q_aload_n (pc' := 5) ja_Motions_isFull_4 rfl rfl ?_
        refine q_getf (pc' := 8) (v := .int (s 66 1)) ja_Motions_isFull_5 rfl (by decide) ⟨rfl, by decide⟩ rfl ?_
        refine q_ic_lt (pc' := 11) ja_Motions_isFull_8 rfl (fun _ => ?_) (fun h => absurd (h1) h)
        refine q_iconst (pc' := 16) ja_Motions_isFull_15 rfl 0 (by decide) ?_
        refine q_iret ja_Motions_isFull_16 rfl (by decide) ?_
        show q_W _ _ _ _ 11 [some (.ref 66), some (.int x1), some (.int (-1)), some (.int x2), some (.int x3)] [.int 0] s
        refine q_if_eq (pc' := 14) ja_Motions_push_11 rfl (fun _ => ?_) (fun h => absurd ((by decide : (0 : Int32) = 0)) h)
        refine q_aload_n (pc' := 16) ja_Motions_push_15 rfl rfl ?_
        refine q_getf (pc' := 19) (v := .ref 67) ja_Motions_push_16 rfl (by decide) ⟨rfl, by decide⟩ rfl ?_
        refine q_aload_n (pc' := 20) ja_Motions_push_19 rfl rfl ?_
        refine q_getf (pc' := 23) (v := .int (s 66 0)) ja_Motions_push_20 rfl (by decide) ⟨rfl, by decide⟩ rfl ?_
        refine q_iload_n (pc' := 24) ja_Motions_push_23 rfl rfl ?_
        refine q_iast (pc' := 25) ja_Motions_push_24 rfl (by decide) (l := 5) rfl (k2 h1 h2 h4) ?_
        intro s1 e1
        refine q_aload_n (pc' := 26) ja_Motions_push_25 rfl rfl ?_
        refine q_getf (pc' := 29) (v := .ref 68) ja_Motions_push_26 rfl (by decide) ⟨rfl, by decide⟩ rfl ?_
        refine q_aload_n (pc' := 30) ja_Motions_push_29 rfl rfl ?_
        refine q_getf (pc' := 33) (v := .int (s1 66 0)) ja_Motions_push_30 rfl (by decide) ⟨rfl, by decide⟩ rfl ?_
        refine q_iload_n (pc' := 34) ja_Motions_push_33 rfl rfl ?_
        refine q_iast (pc' := 35) ja_Motions_push_34 rfl (by decide) (l := 5) rfl (k3 h1 h2 h4 s1 e1) ?_
        intro s2 e2
        refine q_aload_n (pc' := 36) ja_Motions_push_35 rfl rfl ?_
        refine q_getf (pc' := 39) (v := .ref 69) ja_Motions_push_36 rfl (by decide) ⟨rfl, by decide⟩ rfl ?_
        refine q_aload_n (pc' := 40) ja_Motions_push_39 rfl rfl ?_
        refine q_getf (pc' := 43) (v := .int (s2 66 0)) ja_Motions_push_40 rfl (by decide) ⟨rfl, by decide⟩ rfl ?_
        refine q_iload_n (pc' := 44) ja_Motions_push_43 rfl rfl ?_
        refine q_iast (pc' := 45) ja_Motions_push_44 rfl (by decide) (l := 5) rfl (k4 h1 h2 h4 s1 e1 s2 e2) ?_
        intro s3 e3
        refine q_aload_n (pc' := 46) ja_Motions_push_45 rfl rfl ?_
        refine q_getf (pc' := 49) (v := .ref 70) ja_Motions_push_46 rfl (by decide) ⟨rfl, by decide⟩ rfl ?_
        refine q_aload_n (pc' := 50) ja_Motions_push_49 rfl rfl ?_
        refine q_getf (pc' := 53) (v := .int (s3 66 0)) ja_Motions_push_50 rfl (by decide) ⟨rfl, by decide⟩ rfl ?_
        refine q_iload (pc' := 55) ja_Motions_push_53 rfl rfl ?_
        refine q_iast (pc' := 56) ja_Motions_push_55 rfl (by decide) (l := 5) rfl (k5 h1 h2 h4 s1 e1 s2 e2 s3 e3) ?_
        intro s4 e4
        refine q_aload_n (pc' := 57) ja_Motions_push_56 rfl rfl ?_
        refine q_dup (pc' := 58) ja_Motions_push_57 rfl rfl ?_
        refine q_getf (pc' := 61) (v := .int (s4 66 0)) ja_Motions_push_58 rfl (by decide) ⟨rfl, by decide⟩ rfl ?_
        refine q_iconst (pc' := 62) ja_Motions_push_61 rfl 1 (by decide) ?_
        refine q_iadd (pc' := 63) ja_Motions_push_62 rfl ?_
        refine q_putf (pc' := 66) ja_Motions_push_63 rfl (by decide) rfl rfl rfl ?_
        intro s5 e5
        refine q_vret ja_Motions_push_66 rfl ?_
        show q_W _ _ _ _ 91 [some (.ref 0), some (.int x1), some (.int x2), some (.int x3)] [] s5
        refine q_aload_n (pc' := 92) ja_C_tell_91 rfl rfl ?_
        refine q_getf (pc' := 95) (v := .ref 65) ja_C_tell_92 rfl (by decide) ⟨rfl, by decide⟩ rfl ?_
        refine q_getf (pc' := 98) (v := .ref 66) ja_C_tell_95 rfl (by decide) ⟨rfl, by decide⟩ rfl ?_
        refine q_getf (pc' := 101) (v := .int (s5 66 0)) ja_C_tell_98 rfl (by decide) ⟨rfl, by decide⟩ rfl ?_
        exact q_iret ja_C_tell_101 rfl rfl (k6 h1 h2 h4 s1 e1 s2 e2 s3 e3 s4 e4 s5 e5)
    · intro h5
      refine q_iload_n (pc' := 6) ja_C_takesWord_5 rfl rfl ?_
      refine q_iconst (pc' := 7) ja_C_takesWord_6 rfl 3 (by decide) ?_
      refine q_ic_ne (pc' := 10) ja_C_takesWord_7 rfl ?_ ?_
      · intro h6
        refine q_iconst (pc' := 15) ja_C_takesWord_14 rfl 0 (by decide) ?_
        refine q_iret ja_C_takesWord_15 rfl (by decide) ?_
        show q_W _ _ _ _ 80 [some (.ref 0), some (.int x1), some (.int x2), some (.int x3)] [.int 0, .int x2, .int (-1), .int x1, .ref 66] s
        refine q_if_eq (pc' := 83) ja_C_tell_80 rfl (fun _ => ?_) (fun h => absurd ((by decide : (0 : Int32) = 0)) h)
        refine q_iconst (pc' := 88) ja_C_tell_87 rfl (-1) (by decide) ?_
        refine q_virt (pc' := 91) (c := 66) (as := [.int x1, .int (-1), .int x2, .int (-1)]) (r := []) ja_C_tell_88 rfl rfl rfl (by decide) ⟨rfl, by decide⟩ ?_
        refine q_in (M := jm_Motions_push) rfl (Nat.le_of_ble_eq_true rfl) (ls := [some (.ref 66), some (.int x1), some (.int (-1)), some (.int x2), some (.int (-1))]) rfl ?_
        refine q_aload_n (pc' := 1) ja_Motions_push_0 rfl rfl ?_
        refine q_getf (pc' := 4) (v := .int (s 66 0)) ja_Motions_push_1 rfl (by decide) ⟨rfl, by decide⟩ rfl ?_
        refine q_if_lt (pc' := 7) ja_Motions_push_4 rfl ?_ ?_
        · intro h7
          refine q_vret ja_Motions_push_14 rfl ?_
          show q_W _ _ _ _ 91 [some (.ref 0), some (.int x1), some (.int x2), some (.int x3)] [] s
          refine q_aload_n (pc' := 92) ja_C_tell_91 rfl rfl ?_
          refine q_getf (pc' := 95) (v := .ref 65) ja_C_tell_92 rfl (by decide) ⟨rfl, by decide⟩ rfl ?_
          refine q_getf (pc' := 98) (v := .ref 66) ja_C_tell_95 rfl (by decide) ⟨rfl, by decide⟩ rfl ?_
          refine q_getf (pc' := 101) (v := .int (s 66 0)) ja_C_tell_98 rfl (by decide) ⟨rfl, by decide⟩ rfl ?_
          exact q_iret ja_C_tell_101 rfl rfl (k7 h1 h5 h6 h7)
        · intro h8
          refine q_aload_n (pc' := 8) ja_Motions_push_7 rfl rfl ?_
          refine q_virt (pc' := 11) (c := 66) (as := []) (r := []) ja_Motions_push_8 rfl rfl rfl (by decide) ⟨rfl, by decide⟩ ?_
          refine q_in (M := jm_Motions_isFull) rfl (Nat.le_of_ble_eq_true rfl) (ls := [some (.ref 66)]) rfl ?_
          refine q_aload_n (pc' := 1) ja_Motions_isFull_0 rfl rfl ?_
          refine q_getf (pc' := 4) (v := .int (s 66 0)) ja_Motions_isFull_1 rfl (by decide) ⟨rfl, by decide⟩ rfl ?_
          refine q_aload_n (pc' := 5) ja_Motions_isFull_4 rfl rfl ?_
          refine q_getf (pc' := 8) (v := .int (s 66 1)) ja_Motions_isFull_5 rfl (by decide) ⟨rfl, by decide⟩ rfl ?_
          refine q_ic_lt (pc' := 11) ja_Motions_isFull_8 rfl (fun _ => ?_) (fun h => absurd (h1) h)
          refine q_iconst (pc' := 16) ja_Motions_isFull_15 rfl 0 (by decide) ?_
          refine q_iret ja_Motions_isFull_16 rfl (by decide) ?_
          show q_W _ _ _ _ 11 [some (.ref 66), some (.int x1), some (.int (-1)), some (.int x2), some (.int (-1))] [.int 0] s
          refine q_if_eq (pc' := 14) ja_Motions_push_11 rfl (fun _ => ?_) (fun h => absurd ((by decide : (0 : Int32) = 0)) h)
          refine q_aload_n (pc' := 16) ja_Motions_push_15 rfl rfl ?_
          refine q_getf (pc' := 19) (v := .ref 67) ja_Motions_push_16 rfl (by decide) ⟨rfl, by decide⟩ rfl ?_
          refine q_aload_n (pc' := 20) ja_Motions_push_19 rfl rfl ?_
          refine q_getf (pc' := 23) (v := .int (s 66 0)) ja_Motions_push_20 rfl (by decide) ⟨rfl, by decide⟩ rfl ?_
          refine q_iload_n (pc' := 24) ja_Motions_push_23 rfl rfl ?_
          refine q_iast (pc' := 25) ja_Motions_push_24 rfl (by decide) (l := 5) rfl (k8 h1 h5 h6 h8) ?_
          intro s6 e6
          refine q_aload_n (pc' := 26) ja_Motions_push_25 rfl rfl ?_
          refine q_getf (pc' := 29) (v := .ref 68) ja_Motions_push_26 rfl (by decide) ⟨rfl, by decide⟩ rfl ?_
          refine q_aload_n (pc' := 30) ja_Motions_push_29 rfl rfl ?_
          refine q_getf (pc' := 33) (v := .int (s6 66 0)) ja_Motions_push_30 rfl (by decide) ⟨rfl, by decide⟩ rfl ?_
          refine q_iload_n (pc' := 34) ja_Motions_push_33 rfl rfl ?_
          refine q_iast (pc' := 35) ja_Motions_push_34 rfl (by decide) (l := 5) rfl (k9 h1 h5 h6 h8 s6 e6) ?_
          intro s7 e7
          refine q_aload_n (pc' := 36) ja_Motions_push_35 rfl rfl ?_
          refine q_getf (pc' := 39) (v := .ref 69) ja_Motions_push_36 rfl (by decide) ⟨rfl, by decide⟩ rfl ?_
          refine q_aload_n (pc' := 40) ja_Motions_push_39 rfl rfl ?_
          refine q_getf (pc' := 43) (v := .int (s7 66 0)) ja_Motions_push_40 rfl (by decide) ⟨rfl, by decide⟩ rfl ?_
          refine q_iload_n (pc' := 44) ja_Motions_push_43 rfl rfl ?_
          refine q_iast (pc' := 45) ja_Motions_push_44 rfl (by decide) (l := 5) rfl (k10 h1 h5 h6 h8 s6 e6 s7 e7) ?_
          intro s8 e8
          refine q_aload_n (pc' := 46) ja_Motions_push_45 rfl rfl ?_
          refine q_getf (pc' := 49) (v := .ref 70) ja_Motions_push_46 rfl (by decide) ⟨rfl, by decide⟩ rfl ?_
          refine q_aload_n (pc' := 50) ja_Motions_push_49 rfl rfl ?_
          refine q_getf (pc' := 53) (v := .int (s8 66 0)) ja_Motions_push_50 rfl (by decide) ⟨rfl, by decide⟩ rfl ?_
          refine q_iload (pc' := 55) ja_Motions_push_53 rfl rfl ?_
          refine q_iast (pc' := 56) ja_Motions_push_55 rfl (by decide) (l := 5) rfl (k11 h1 h5 h6 h8 s6 e6 s7 e7 s8 e8) ?_
          intro s9 e9
          refine q_aload_n (pc' := 57) ja_Motions_push_56 rfl rfl ?_
          refine q_dup (pc' := 58) ja_Motions_push_57 rfl rfl ?_
          refine q_getf (pc' := 61) (v := .int (s9 66 0)) ja_Motions_push_58 rfl (by decide) ⟨rfl, by decide⟩ rfl ?_
          refine q_iconst (pc' := 62) ja_Motions_push_61 rfl 1 (by decide) ?_
          refine q_iadd (pc' := 63) ja_Motions_push_62 rfl ?_
          refine q_putf (pc' := 66) ja_Motions_push_63 rfl (by decide) rfl rfl rfl ?_
          intro s10 e10
          refine q_vret ja_Motions_push_66 rfl ?_
          show q_W _ _ _ _ 91 [some (.ref 0), some (.int x1), some (.int x2), some (.int x3)] [] s10
          refine q_aload_n (pc' := 92) ja_C_tell_91 rfl rfl ?_
          refine q_getf (pc' := 95) (v := .ref 65) ja_C_tell_92 rfl (by decide) ⟨rfl, by decide⟩ rfl ?_
          refine q_getf (pc' := 98) (v := .ref 66) ja_C_tell_95 rfl (by decide) ⟨rfl, by decide⟩ rfl ?_
          refine q_getf (pc' := 101) (v := .int (s10 66 0)) ja_C_tell_98 rfl (by decide) ⟨rfl, by decide⟩ rfl ?_
          exact q_iret ja_C_tell_101 rfl rfl (k12 h1 h5 h6 h8 s6 e6 s7 e7 s8 e8 s9 e9 s10 e10)
      · intro h9
        refine q_iconst (pc' := 11) ja_C_takesWord_10 rfl 1 (by decide) ?_
        refine q_goto ja_C_takesWord_11 ?_
        refine q_iret ja_C_takesWord_15 rfl (by decide) ?_
        show q_W _ _ _ _ 80 [some (.ref 0), some (.int x1), some (.int x2), some (.int x3)] [.int 1, .int x2, .int (-1), .int x1, .ref 66] s
        refine q_if_eq (pc' := 83) ja_C_tell_80 rfl (fun h => absurd h ((by decide : ¬ (1 : Int32) = 0))) (fun _ => ?_)
        refine q_iload_n (pc' := 84) ja_C_tell_83 rfl rfl ?_
        refine q_goto ja_C_tell_84 ?_
        refine q_virt (pc' := 91) (c := 66) (as := [.int x1, .int (-1), .int x2, .int x3]) (r := []) ja_C_tell_88 rfl rfl rfl (by decide) ⟨rfl, by decide⟩ ?_
        refine q_in (M := jm_Motions_push) rfl (Nat.le_of_ble_eq_true rfl) (ls := [some (.ref 66), some (.int x1), some (.int (-1)), some (.int x2), some (.int x3)]) rfl ?_
        refine q_aload_n (pc' := 1) ja_Motions_push_0 rfl rfl ?_
        refine q_getf (pc' := 4) (v := .int (s 66 0)) ja_Motions_push_1 rfl (by decide) ⟨rfl, by decide⟩ rfl ?_
        refine q_if_lt (pc' := 7) ja_Motions_push_4 rfl ?_ ?_
        · intro h10
          refine q_vret ja_Motions_push_14 rfl ?_
          show q_W _ _ _ _ 91 [some (.ref 0), some (.int x1), some (.int x2), some (.int x3)] [] s
          refine q_aload_n (pc' := 92) ja_C_tell_91 rfl rfl ?_
          refine q_getf (pc' := 95) (v := .ref 65) ja_C_tell_92 rfl (by decide) ⟨rfl, by decide⟩ rfl ?_
          refine q_getf (pc' := 98) (v := .ref 66) ja_C_tell_95 rfl (by decide) ⟨rfl, by decide⟩ rfl ?_
          refine q_getf (pc' := 101) (v := .int (s 66 0)) ja_C_tell_98 rfl (by decide) ⟨rfl, by decide⟩ rfl ?_
          exact q_iret ja_C_tell_101 rfl rfl (k13 h1 h5 h9 h10)
        · intro h11
          refine q_aload_n (pc' := 8) ja_Motions_push_7 rfl rfl ?_
          refine q_virt (pc' := 11) (c := 66) (as := []) (r := []) ja_Motions_push_8 rfl rfl rfl (by decide) ⟨rfl, by decide⟩ ?_
          refine q_in (M := jm_Motions_isFull) rfl (Nat.le_of_ble_eq_true rfl) (ls := [some (.ref 66)]) rfl ?_
          refine q_aload_n (pc' := 1) ja_Motions_isFull_0 rfl rfl ?_
          refine q_getf (pc' := 4) (v := .int (s 66 0)) ja_Motions_isFull_1 rfl (by decide) ⟨rfl, by decide⟩ rfl ?_
          refine q_aload_n (pc' := 5) ja_Motions_isFull_4 rfl rfl ?_
          refine q_getf (pc' := 8) (v := .int (s 66 1)) ja_Motions_isFull_5 rfl (by decide) ⟨rfl, by decide⟩ rfl ?_
          refine q_ic_lt (pc' := 11) ja_Motions_isFull_8 rfl (fun _ => ?_) (fun h => absurd (h1) h)
          refine q_iconst (pc' := 16) ja_Motions_isFull_15 rfl 0 (by decide) ?_
          refine q_iret ja_Motions_isFull_16 rfl (by decide) ?_
          show q_W _ _ _ _ 11 [some (.ref 66), some (.int x1), some (.int (-1)), some (.int x2), some (.int x3)] [.int 0] s
          refine q_if_eq (pc' := 14) ja_Motions_push_11 rfl (fun _ => ?_) (fun h => absurd ((by decide : (0 : Int32) = 0)) h)
          refine q_aload_n (pc' := 16) ja_Motions_push_15 rfl rfl ?_
          refine q_getf (pc' := 19) (v := .ref 67) ja_Motions_push_16 rfl (by decide) ⟨rfl, by decide⟩ rfl ?_
          refine q_aload_n (pc' := 20) ja_Motions_push_19 rfl rfl ?_
          refine q_getf (pc' := 23) (v := .int (s 66 0)) ja_Motions_push_20 rfl (by decide) ⟨rfl, by decide⟩ rfl ?_
          refine q_iload_n (pc' := 24) ja_Motions_push_23 rfl rfl ?_
          refine q_iast (pc' := 25) ja_Motions_push_24 rfl (by decide) (l := 5) rfl (k14 h1 h5 h9 h11) ?_
          intro s11 e11
          refine q_aload_n (pc' := 26) ja_Motions_push_25 rfl rfl ?_
          refine q_getf (pc' := 29) (v := .ref 68) ja_Motions_push_26 rfl (by decide) ⟨rfl, by decide⟩ rfl ?_
          refine q_aload_n (pc' := 30) ja_Motions_push_29 rfl rfl ?_
          refine q_getf (pc' := 33) (v := .int (s11 66 0)) ja_Motions_push_30 rfl (by decide) ⟨rfl, by decide⟩ rfl ?_
          refine q_iload_n (pc' := 34) ja_Motions_push_33 rfl rfl ?_
          refine q_iast (pc' := 35) ja_Motions_push_34 rfl (by decide) (l := 5) rfl (k15 h1 h5 h9 h11 s11 e11) ?_
          intro s12 e12
          refine q_aload_n (pc' := 36) ja_Motions_push_35 rfl rfl ?_
          refine q_getf (pc' := 39) (v := .ref 69) ja_Motions_push_36 rfl (by decide) ⟨rfl, by decide⟩ rfl ?_
          refine q_aload_n (pc' := 40) ja_Motions_push_39 rfl rfl ?_
          refine q_getf (pc' := 43) (v := .int (s12 66 0)) ja_Motions_push_40 rfl (by decide) ⟨rfl, by decide⟩ rfl ?_
          refine q_iload_n (pc' := 44) ja_Motions_push_43 rfl rfl ?_
          refine q_iast (pc' := 45) ja_Motions_push_44 rfl (by decide) (l := 5) rfl (k16 h1 h5 h9 h11 s11 e11 s12 e12) ?_
          intro s13 e13
          refine q_aload_n (pc' := 46) ja_Motions_push_45 rfl rfl ?_
          refine q_getf (pc' := 49) (v := .ref 70) ja_Motions_push_46 rfl (by decide) ⟨rfl, by decide⟩ rfl ?_
          refine q_aload_n (pc' := 50) ja_Motions_push_49 rfl rfl ?_
          refine q_getf (pc' := 53) (v := .int (s13 66 0)) ja_Motions_push_50 rfl (by decide) ⟨rfl, by decide⟩ rfl ?_
          refine q_iload (pc' := 55) ja_Motions_push_53 rfl rfl ?_
          refine q_iast (pc' := 56) ja_Motions_push_55 rfl (by decide) (l := 5) rfl (k17 h1 h5 h9 h11 s11 e11 s12 e12 s13 e13) ?_
          intro s14 e14
          refine q_aload_n (pc' := 57) ja_Motions_push_56 rfl rfl ?_
          refine q_dup (pc' := 58) ja_Motions_push_57 rfl rfl ?_
          refine q_getf (pc' := 61) (v := .int (s14 66 0)) ja_Motions_push_58 rfl (by decide) ⟨rfl, by decide⟩ rfl ?_
          refine q_iconst (pc' := 62) ja_Motions_push_61 rfl 1 (by decide) ?_
          refine q_iadd (pc' := 63) ja_Motions_push_62 rfl ?_
          refine q_putf (pc' := 66) ja_Motions_push_63 rfl (by decide) rfl rfl rfl ?_
          intro s15 e15
          refine q_vret ja_Motions_push_66 rfl ?_
          show q_W _ _ _ _ 91 [some (.ref 0), some (.int x1), some (.int x2), some (.int x3)] [] s15
          refine q_aload_n (pc' := 92) ja_C_tell_91 rfl rfl ?_
          refine q_getf (pc' := 95) (v := .ref 65) ja_C_tell_92 rfl (by decide) ⟨rfl, by decide⟩ rfl ?_
          refine q_getf (pc' := 98) (v := .ref 66) ja_C_tell_95 rfl (by decide) ⟨rfl, by decide⟩ rfl ?_
          refine q_getf (pc' := 101) (v := .int (s15 66 0)) ja_C_tell_98 rfl (by decide) ⟨rfl, by decide⟩ rfl ?_
          exact q_iret ja_C_tell_101 rfl rfl (k18 h1 h5 h9 h11 s11 e11 s12 e12 s13 e13 s14 e14 s15 e15)
  · intro h12
    refine q_iconst (pc' := 12) ja_Motions_isFull_11 rfl 1 (by decide) ?_
    refine q_goto ja_Motions_isFull_12 ?_
    refine q_iret ja_Motions_isFull_16 rfl (by decide) ?_
    show q_W _ _ _ _ 60 [some (.ref 0), some (.int x1), some (.int x2), some (.int x3)] [.int 1] s
    refine q_if_eq (pc' := 63) ja_C_tell_60 rfl (fun h => absurd h ((by decide : ¬ (1 : Int32) = 0))) (fun _ => ?_)
    refine q_bipush (pc' := 65) ja_C_tell_63 rfl (-4) (by decide) ?_
    exact q_iret ja_C_tell_65 rfl rfl (k19 h12)

def tl_1 (a1 a3 : Int32) : Prop := 1 ≤ a1.toInt ∧ a1.toInt ≤ 3 ∧ (a1.toInt = 1 ∨ (1 ≤ a3.toInt ∧ a3.toInt ≤ 60))
def tl_2 (a1 a2 : Int32) (z : Int) : Prop := 0 ≤ a2.toInt ∧ (a2.toInt < z ∨ (a1.toInt = 2 ∧ a2.toInt ≤ z))
theorem sp_C_tell {G : jv_X} {d : Nat} {B : Option Value → jg_H → Prop} {s : jg_H} (a1 a2 a3 : Int32) (z : Int) (hT : 0 ≤ (s 66 0).toInt) (hT5 : (s 66 0).toInt ≤ 5) (h5 : s 66 1 = 5)
    (u1 : -1 ≤ (s 0 6).toInt) (u2 : (s 0 6).toInt < (s 0 3).toInt) (u3 : (s 0 3).toInt ≤ 8) (hz : 0 ≤ (s 0 6).toInt → (s (33 + 3 * (s 0 6).toNatClampNeg + 1) 0).toInt = z)
    (b1 : ¬ tl_1 a1 a3 → B (some (.int (-2))) s) (b2 : tl_1 a1 a3 → (s 0 6).toInt = -1 → B (some (.int (-3))) s) (b3 : tl_1 a1 a3 → 0 ≤ (s 0 6).toInt → ¬ tl_2 a1 a2 z → B (some (.int (-2))) s)
    (b4 : tl_1 a1 a3 → 0 ≤ (s 0 6).toInt → tl_2 a1 a2 z → (s 66 0).toInt = 5 → B (some (.int (-4))) s)
    (b5 : tl_1 a1 a3 → 0 ≤ (s 0 6).toInt → tl_2 a1 a2 z → (s 66 0).toInt < 5 → ∀ w : Int32, (¬ a1.toInt = 1 → w = a3) → B (some (.int (s 66 0 + 1))) (jg_up (jg_up (jg_up (jg_up (jg_up s 67 (s 66 0).toNatClampNeg a1) 68 (s 66 0).toNatClampNeg (-1)) 69 (s 66 0).toNatClampNeg a2) 70 (s 66 0).toNatClampNeg w) 66 0 (s 66 0 + 1))) : q_P G (d + 3) 106 [.ref 0, .int a1, .int a2, .int a3] s B := by
  have J : tl_1 a1 a3 → 0 ≤ (s 0 6).toInt → tl_2 a1 a2 z → q_W G (d + 2) jm_C_tell B 50 [some (.ref 0), some (.int a1), some (.int a2), some (.int a3)] [] s := by
    intro k1 k2 k3
    have c4 := b4 k1 k2 k3
    have c5 := b5 k1 k2 k3
    clear b1 b2 b3 b4 b5 hz
    refine t2_C_tell_50 (d := d) _ _ _ ?_ ?_ ?_ ?_ ?_ ?_ ?_ ?_ ?_ ?_ ?_ ?_ ?_ ?_ ?_ ?_ ?_ ?_ ?_ <;> intros <;> subst_vars <;> (try simp only [u_hit, u_c (show ¬ 66 = 67 by decide), u_c (show ¬ 66 = 68 by decide), u_c (show ¬ 66 = 69 by decide), u_c (show ¬ 66 = 70 by decide)])
    all_goals first
      | (rw [i_in]; clear c4 c5; ((try simp only [i_lt, i_le, i_eq, i_in, i_cn, Int32.toInt_add, Int32.toInt_sub, Int32.toInt_mul, Int32.toInt_neg, Int32.reduceToInt, Int.bmod_add_bmod, Int.add_bmod_bmod, Int.bmod_sub_bmod, Int.sub_bmod_bmod, Int.bmod_mul_bmod, Int.mul_bmod_bmod, Int.bmod_neg_bmod, Nat.reducePow, Int.reduceBmod, Int.reduceNeg, Int.reduceMul, Int.reduceAdd, Int.reduceSub, not_true_eq_false, not_false_eq_true] at *) <;> (try simp (disch := omega) only [i_bm'] at *) <;> omega))
      | (refine c4 ?_; clear c4 c5 k1 k3; ((try simp only [i_lt, i_le, i_eq, i_in, i_cn, Int32.toInt_add, Int32.toInt_sub, Int32.toInt_mul, Int32.toInt_neg, Int32.reduceToInt, Int.bmod_add_bmod, Int.add_bmod_bmod, Int.bmod_sub_bmod, Int.sub_bmod_bmod, Int.bmod_mul_bmod, Int.mul_bmod_bmod, Int.bmod_neg_bmod, Nat.reducePow, Int.reduceBmod, Int.reduceNeg, Int.reduceMul, Int.reduceAdd, Int.reduceSub, not_true_eq_false, not_false_eq_true] at *) <;> (try simp (disch := omega) only [i_bm'] at *) <;> omega))
      | (exfalso; clear c4 c5 k1 k3; ((try simp only [i_lt, i_le, i_eq, i_in, i_cn, Int32.toInt_add, Int32.toInt_sub, Int32.toInt_mul, Int32.toInt_neg, Int32.reduceToInt, Int.bmod_add_bmod, Int.add_bmod_bmod, Int.bmod_sub_bmod, Int.sub_bmod_bmod, Int.bmod_mul_bmod, Int.mul_bmod_bmod, Int.bmod_neg_bmod, Nat.reducePow, Int.reduceBmod, Int.reduceNeg, Int.reduceMul, Int.reduceAdd, Int.reduceSub, not_true_eq_false, not_false_eq_true] at *) <;> (try simp (disch := omega) only [i_bm'] at *) <;> omega))
      | exact c5 (by clear c4 c5 k1 k3; ((try simp only [i_lt, i_le, i_eq, i_in, i_cn, Int32.toInt_add, Int32.toInt_sub, Int32.toInt_mul, Int32.toInt_neg, Int32.reduceToInt, Int.bmod_add_bmod, Int.add_bmod_bmod, Int.bmod_sub_bmod, Int.sub_bmod_bmod, Int.bmod_mul_bmod, Int.mul_bmod_bmod, Int.bmod_neg_bmod, Nat.reducePow, Int.reduceBmod, Int.reduceNeg, Int.reduceMul, Int.reduceAdd, Int.reduceSub, not_true_eq_false, not_false_eq_true] at *) <;> (try simp (disch := omega) only [i_bm'] at *) <;> omega)) _ (fun _ => rfl)
      | exact c5 (by clear c4 c5 k1 k3; ((try simp only [i_lt, i_le, i_eq, i_in, i_cn, Int32.toInt_add, Int32.toInt_sub, Int32.toInt_mul, Int32.toInt_neg, Int32.reduceToInt, Int.bmod_add_bmod, Int.add_bmod_bmod, Int.bmod_sub_bmod, Int.sub_bmod_bmod, Int.bmod_mul_bmod, Int.mul_bmod_bmod, Int.bmod_neg_bmod, Nat.reducePow, Int.reduceBmod, Int.reduceNeg, Int.reduceMul, Int.reduceAdd, Int.reduceSub, not_true_eq_false, not_false_eq_true] at *) <;> (try simp (disch := omega) only [i_bm'] at *) <;> omega)) _ (fun e => absurd e (by unfold tl_1 at k1; clear c4 c5 k3; ((try simp only [i_lt, i_le, i_eq, i_in, i_cn, Int32.toInt_add, Int32.toInt_sub, Int32.toInt_mul, Int32.toInt_neg, Int32.reduceToInt, Int.bmod_add_bmod, Int.add_bmod_bmod, Int.bmod_sub_bmod, Int.sub_bmod_bmod, Int.bmod_mul_bmod, Int.mul_bmod_bmod, Int.bmod_neg_bmod, Nat.reducePow, Int.reduceBmod, Int.reduceNeg, Int.reduceMul, Int.reduceAdd, Int.reduceSub, not_true_eq_false, not_false_eq_true] at *) <;> (try simp (disch := omega) only [i_bm'] at *) <;> omega)))
  have J2 : tl_1 a1 a3 → q_W G (d + 2) jm_C_tell B 24 [some (.ref 0), some (.int a1), some (.int a2), some (.int a3)] [] s := by
    intro k1
    have c2 := b2 k1
    have c3 := b3 k1
    have c4 := J k1
    clear b1 b2 b3 b4 b5 J hT h5
    refine t2_C_tell_24 (d := d) _ _ _ ?_ ?_ ?_ ?_ ?_ ?_ ?_ ?_ ?_ ?_ ?_ ?_ ?_ ?_ ?_ ?_ ?_ ?_ ?_ ?_ ?_ <;> intros <;> first
      | (refine c2 ?_; clear c2 c3 c4 hz k1; ((try simp only [i_lt, i_le, i_eq, i_in, i_cn, Int32.toInt_add, Int32.toInt_sub, Int32.toInt_mul, Int32.toInt_neg, Int32.reduceToInt, Int.bmod_add_bmod, Int.add_bmod_bmod, Int.bmod_sub_bmod, Int.sub_bmod_bmod, Int.bmod_mul_bmod, Int.mul_bmod_bmod, Int.bmod_neg_bmod, Nat.reducePow, Int.reduceBmod, Int.reduceNeg, Int.reduceMul, Int.reduceAdd, Int.reduceSub, not_true_eq_false, not_false_eq_true] at *) <;> (try simp (disch := omega) only [i_bm'] at *) <;> omega))
      | (refine c3 ?_ ?_ <;> (try unfold tl_2) <;> clear c2 c3 c4 k1 <;> ((try simp only [i_lt, i_le, i_eq, i_in, i_cn, Int32.toInt_add, Int32.toInt_sub, Int32.toInt_mul, Int32.toInt_neg, Int32.reduceToInt, Int.bmod_add_bmod, Int.add_bmod_bmod, Int.bmod_sub_bmod, Int.sub_bmod_bmod, Int.bmod_mul_bmod, Int.mul_bmod_bmod, Int.bmod_neg_bmod, Nat.reducePow, Int.reduceBmod, Int.reduceNeg, Int.reduceMul, Int.reduceAdd, Int.reduceSub, not_true_eq_false, not_false_eq_true] at *) <;> (try simp (disch := omega) only [i_bm'] at *) <;> omega))
      | (refine c4 ?_ ?_ <;> (try unfold tl_2) <;> clear c2 c3 c4 k1 <;> ((try simp only [i_lt, i_le, i_eq, i_in, i_cn, Int32.toInt_add, Int32.toInt_sub, Int32.toInt_mul, Int32.toInt_neg, Int32.reduceToInt, Int.bmod_add_bmod, Int.add_bmod_bmod, Int.bmod_sub_bmod, Int.sub_bmod_bmod, Int.bmod_mul_bmod, Int.mul_bmod_bmod, Int.bmod_neg_bmod, Nat.reducePow, Int.reduceBmod, Int.reduceNeg, Int.reduceMul, Int.reduceAdd, Int.reduceSub, not_true_eq_false, not_false_eq_true] at *) <;> (try simp (disch := omega) only [i_bm'] at *) <;> omega))
      | (exfalso; clear c2 c3 c4 hz k1; ((try simp only [i_lt, i_le, i_eq, i_in, i_cn, Int32.toInt_add, Int32.toInt_sub, Int32.toInt_mul, Int32.toInt_neg, Int32.reduceToInt, Int.bmod_add_bmod, Int.add_bmod_bmod, Int.bmod_sub_bmod, Int.sub_bmod_bmod, Int.bmod_mul_bmod, Int.mul_bmod_bmod, Int.bmod_neg_bmod, Nat.reducePow, Int.reduceBmod, Int.reduceNeg, Int.reduceMul, Int.reduceAdd, Int.reduceSub, not_true_eq_false, not_false_eq_true] at *) <;> (try simp (disch := omega) only [i_bm'] at *) <;> omega))
  clear b2 b3 b4 b5 J hT h5 hz u1 u2 u3
  refine t2_C_tell (d := d) _ _ _ ?_ ?_ ?_ ?_ ?_ ?_ ?_ ?_ ?_ <;> intros <;> first
    | (refine b1 ?_; unfold tl_1; clear b1 J2; ((try simp only [i_lt, i_le, i_eq, i_in, i_cn, Int32.toInt_add, Int32.toInt_sub, Int32.toInt_mul, Int32.toInt_neg, Int32.reduceToInt, Int.bmod_add_bmod, Int.add_bmod_bmod, Int.bmod_sub_bmod, Int.sub_bmod_bmod, Int.bmod_mul_bmod, Int.mul_bmod_bmod, Int.bmod_neg_bmod, Nat.reducePow, Int.reduceBmod, Int.reduceNeg, Int.reduceMul, Int.reduceAdd, Int.reduceSub, not_true_eq_false, not_false_eq_true] at *) <;> (try simp (disch := omega) only [i_bm'] at *) <;> omega))
    | (refine J2 ?_; unfold tl_1; clear b1 J2; ((try simp only [i_lt, i_le, i_eq, i_in, i_cn, Int32.toInt_add, Int32.toInt_sub, Int32.toInt_mul, Int32.toInt_neg, Int32.reduceToInt, Int.bmod_add_bmod, Int.add_bmod_bmod, Int.bmod_sub_bmod, Int.sub_bmod_bmod, Int.bmod_mul_bmod, Int.mul_bmod_bmod, Int.bmod_neg_bmod, Nat.reducePow, Int.reduceBmod, Int.reduceNeg, Int.reduceMul, Int.reduceAdd, Int.reduceSub, not_true_eq_false, not_false_eq_true] at *) <;> (try simp (disch := omega) only [i_bm'] at *) <;> omega))
theorem sp_M_tell {G : jv_X} {d : Nat} {B : Option Value → jg_H → Prop} {s : jg_H} (a1 a2 a3 : Int32) (z : Int) (hT : 0 ≤ (s 146 19).toInt) (hT5 : (s 146 19).toInt ≤ 5)
    (u1 : -1 ≤ (s 146 13).toInt) (u2 : (s 146 13).toInt < 8) (hz : 0 ≤ (s 146 13).toInt → (s 153 (s 146 13).toNatClampNeg).toInt = z) (hz0 : 0 ≤ z) (hz1 : z ≤ 10)
    (b1 : ¬ tl_1 a1 a3 → B (some (.int (-2))) s) (b2 : tl_1 a1 a3 → (s 146 13).toInt = -1 → B (some (.int (-3))) s) (b3 : tl_1 a1 a3 → 0 ≤ (s 146 13).toInt → ¬ tl_2 a1 a2 z → B (some (.int (-2))) s)
    (b4 : tl_1 a1 a3 → 0 ≤ (s 146 13).toInt → tl_2 a1 a2 z → (s 146 19).toInt = 5 → B (some (.int (-4))) s)
    (b5 : tl_1 a1 a3 → 0 ≤ (s 146 13).toInt → tl_2 a1 a2 z → (s 146 19).toInt < 5 → B (some (.int (s 146 19 + 1))) (jg_up (jg_up (jg_up (jg_up s 172 (s 146 19).toNatClampNeg a1) 173 (s 146 19).toNatClampNeg a2) 174 (s 146 19).toNatClampNeg a3) 146 19 (s 146 19 + 1))) : q_P G (d + 3) 205 [.ref 146, .int a1, .int a2, .int a3] s B := by
  unfold tl_1 tl_2 at *
  refine t_M_tell (d := d) a1 a2 a3 ?_ ?_ ?_ ?_ ?_ ?_ ?_ ?_ ?_ ?_ ?_ ?_ ?_ ?_ ?_ ?_ ?_ ?_ ?_ ?_ ?_ ?_ ?_ ?_ ?_ ?_ ?_ ?_ ?_ ?_ ?_ ?_ ?_ ?_ ?_ ?_ <;> intros <;> subst_vars <;> (try simp only [u_hit, u_c (show ¬ 146 = 172 by decide), u_c (show ¬ 146 = 173 by decide), u_c (show ¬ 146 = 174 by decide)]) <;> first
    | (rw [i_in]; clear b1 b2 b3 b4 b5; ((try simp only [i_lt, i_le, i_eq, i_in, i_cn, Int32.toInt_add, Int32.toInt_sub, Int32.toInt_mul, Int32.toInt_neg, Int32.reduceToInt, Int.bmod_add_bmod, Int.add_bmod_bmod, Int.bmod_sub_bmod, Int.sub_bmod_bmod, Int.bmod_mul_bmod, Int.mul_bmod_bmod, Int.bmod_neg_bmod, Nat.reducePow, Int.reduceBmod, Int.reduceNeg, Int.reduceMul, Int.reduceAdd, Int.reduceSub, not_true_eq_false, not_false_eq_true] at *) <;> (try simp (disch := omega) only [i_bm'] at *) <;> (try simp only [true_or, or_true, true_and, and_true, false_or, or_false, false_and, and_false, not_true_eq_false, not_false_eq_true]) <;> omega))
    | (refine b1 ?_; clear b1 b2 b3 b4 b5; ((try simp only [i_lt, i_le, i_eq, i_in, i_cn, Int32.toInt_add, Int32.toInt_sub, Int32.toInt_mul, Int32.toInt_neg, Int32.reduceToInt, Int.bmod_add_bmod, Int.add_bmod_bmod, Int.bmod_sub_bmod, Int.sub_bmod_bmod, Int.bmod_mul_bmod, Int.mul_bmod_bmod, Int.bmod_neg_bmod, Nat.reducePow, Int.reduceBmod, Int.reduceNeg, Int.reduceMul, Int.reduceAdd, Int.reduceSub, not_true_eq_false, not_false_eq_true] at *) <;> (try simp (disch := omega) only [i_bm'] at *) <;> (try simp only [true_or, or_true, true_and, and_true, false_or, or_false, false_and, and_false, not_true_eq_false, not_false_eq_true]) <;> omega))
    | (refine b2 ?_ ?_ <;> clear b1 b2 b3 b4 b5 <;> ((try simp only [i_lt, i_le, i_eq, i_in, i_cn, Int32.toInt_add, Int32.toInt_sub, Int32.toInt_mul, Int32.toInt_neg, Int32.reduceToInt, Int.bmod_add_bmod, Int.add_bmod_bmod, Int.bmod_sub_bmod, Int.sub_bmod_bmod, Int.bmod_mul_bmod, Int.mul_bmod_bmod, Int.bmod_neg_bmod, Nat.reducePow, Int.reduceBmod, Int.reduceNeg, Int.reduceMul, Int.reduceAdd, Int.reduceSub, not_true_eq_false, not_false_eq_true] at *) <;> (try simp (disch := omega) only [i_bm'] at *) <;> (try simp only [true_or, or_true, true_and, and_true, false_or, or_false, false_and, and_false, not_true_eq_false, not_false_eq_true]) <;> omega))
    | (refine b3 ?_ ?_ ?_ <;> clear b1 b2 b3 b4 b5 <;> ((try simp only [i_lt, i_le, i_eq, i_in, i_cn, Int32.toInt_add, Int32.toInt_sub, Int32.toInt_mul, Int32.toInt_neg, Int32.reduceToInt, Int.bmod_add_bmod, Int.add_bmod_bmod, Int.bmod_sub_bmod, Int.sub_bmod_bmod, Int.bmod_mul_bmod, Int.mul_bmod_bmod, Int.bmod_neg_bmod, Nat.reducePow, Int.reduceBmod, Int.reduceNeg, Int.reduceMul, Int.reduceAdd, Int.reduceSub, not_true_eq_false, not_false_eq_true] at *) <;> (try simp (disch := omega) only [i_bm'] at *) <;> (try simp only [true_or, or_true, true_and, and_true, false_or, or_false, false_and, and_false, not_true_eq_false, not_false_eq_true]) <;> omega))
    | (refine b4 ?_ ?_ ?_ ?_ <;> clear b1 b2 b3 b4 b5 <;> ((try simp only [i_lt, i_le, i_eq, i_in, i_cn, Int32.toInt_add, Int32.toInt_sub, Int32.toInt_mul, Int32.toInt_neg, Int32.reduceToInt, Int.bmod_add_bmod, Int.add_bmod_bmod, Int.bmod_sub_bmod, Int.sub_bmod_bmod, Int.bmod_mul_bmod, Int.mul_bmod_bmod, Int.bmod_neg_bmod, Nat.reducePow, Int.reduceBmod, Int.reduceNeg, Int.reduceMul, Int.reduceAdd, Int.reduceSub, not_true_eq_false, not_false_eq_true] at *) <;> (try simp (disch := omega) only [i_bm'] at *) <;> (try simp only [true_or, or_true, true_and, and_true, false_or, or_false, false_and, and_false, not_true_eq_false, not_false_eq_true]) <;> omega))
    | (refine b5 ?_ ?_ ?_ ?_ <;> clear b1 b2 b3 b4 b5 <;> ((try simp only [i_lt, i_le, i_eq, i_in, i_cn, Int32.toInt_add, Int32.toInt_sub, Int32.toInt_mul, Int32.toInt_neg, Int32.reduceToInt, Int.bmod_add_bmod, Int.add_bmod_bmod, Int.bmod_sub_bmod, Int.sub_bmod_bmod, Int.bmod_mul_bmod, Int.mul_bmod_bmod, Int.bmod_neg_bmod, Nat.reducePow, Int.reduceBmod, Int.reduceNeg, Int.reduceMul, Int.reduceAdd, Int.reduceSub, not_true_eq_false, not_false_eq_true] at *) <;> (try simp (disch := omega) only [i_bm'] at *) <;> (try simp only [true_or, or_true, true_and, and_true, false_or, or_false, false_and, and_false, not_true_eq_false, not_false_eq_true]) <;> omega))
    | (exfalso; clear b1 b2 b3 b4 b5; ((try simp only [i_lt, i_le, i_eq, i_in, i_cn, Int32.toInt_add, Int32.toInt_sub, Int32.toInt_mul, Int32.toInt_neg, Int32.reduceToInt, Int.bmod_add_bmod, Int.add_bmod_bmod, Int.bmod_sub_bmod, Int.sub_bmod_bmod, Int.bmod_mul_bmod, Int.mul_bmod_bmod, Int.bmod_neg_bmod, Nat.reducePow, Int.reduceBmod, Int.reduceNeg, Int.reduceMul, Int.reduceAdd, Int.reduceSub, not_true_eq_false, not_false_eq_true] at *) <;> (try simp (disch := omega) only [i_bm'] at *) <;> (try simp only [true_or, or_true, true_and, and_true, false_or, or_false, false_and, and_false, not_true_eq_false, not_false_eq_true]) <;> omega))
