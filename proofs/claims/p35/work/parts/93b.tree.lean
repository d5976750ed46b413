set_option maxRecDepth 20000 in
theorem t_C_feed {G : jv_X} {d : Nat} {B : Option Value → jg_H → Prop} {s : jg_H} (a1 : Int32) (a2 : Int64)
    (k1 : a1 < 1 → B (some (.int (-2))) s)
    (k2 : ¬ a1 < 1 → a1 ≤ 8 → ((s 117 1) + a1) ≤ 200 → q_W G (d + 1) jm_C_feed B 35 [some (.ref 0), some (.int a1), some (.long a2), none, some (.int 0)] [] s)
    (k3 : ¬ a1 < 1 → a1 ≤ 8 → ¬ ((s 117 1) + a1) ≤ 200 → B (some (.int (-4))) s)
    (k4 : ¬ a1 < 1 → ¬ a1 ≤ 8 → B (some (.int (-2))) s) :
    q_P G (d + 2) 69 [.ref 0, .int a1, .long a2] s B := by
  refine q_in (M := jm_C_feed) rfl (Nat.le_of_ble_eq_true rfl) (ls := [some (.ref 0), some (.int a1), some (.long a2), none, none]) rfl ?_
  refine q_iload_n (pc' := 1) ja_C_feed_0 rfl rfl ?_
  refine q_iconst (pc' := 2) ja_C_feed_1 rfl 1 (by decide) ?_
  refine q_ic_lt (pc' := 5) ja_C_feed_2 rfl ?_ ?_
  · intro h1
    refine q_bipush (pc' := 13) ja_C_feed_11 rfl (-2) (by decide) ?_
    exact q_iret ja_C_feed_13 rfl rfl (k1 h1)
  · intro h2
    refine q_iload_n (pc' := 6) ja_C_feed_5 rfl rfl ?_
    refine q_bipush (pc' := 8) ja_C_feed_6 rfl 8 (by decide) ?_
    refine q_ic_le (pc' := 11) ja_C_feed_8 rfl ?_ ?_
    · intro h3
      refine q_aload_n (pc' := 15) ja_C_feed_14 rfl rfl ?_
      refine q_getf (pc' := 18) (v := .ref 117) ja_C_feed_15 rfl (by decide) ⟨rfl, by decide⟩ rfl ?_
      refine q_getf (pc' := 21) (v := .int (s 117 1)) ja_C_feed_18 rfl (by decide) ⟨rfl, by decide⟩ rfl ?_
      refine q_iload_n (pc' := 22) ja_C_feed_21 rfl rfl ?_
      refine q_iadd (pc' := 23) ja_C_feed_22 rfl ?_
      refine q_sipush (pc' := 26) ja_C_feed_23 rfl 200 (by decide) ?_
      refine q_ic_le (pc' := 29) ja_C_feed_26 rfl ?_ ?_
      · intro h4
        refine q_iconst (pc' := 33) ja_C_feed_32 rfl 0 (by decide) ?_
        refine q_istore (pc' := 35) (ls' := [some (.ref 0), some (.int a1), some (.long a2), none, some (.int 0)]) ja_C_feed_33 rfl ⟨Nat.le_of_ble_eq_true rfl, rfl⟩ rfl ?_
        exact (k2 h2 h3 h4)
      · intro h5
        refine q_bipush (pc' := 31) ja_C_feed_29 rfl (-4) (by decide) ?_
        exact q_iret ja_C_feed_31 rfl rfl (k3 h2 h3 h5)
    · intro h6
      refine q_bipush (pc' := 13) ja_C_feed_11 rfl (-2) (by decide) ?_
      exact q_iret ja_C_feed_13 rfl rfl (k4 h2 h6)
set_option maxRecDepth 20000 in
theorem t_C_feed_35 {G : jv_X} {d : Nat} {B : Option Value → jg_H → Prop} {s : jg_H} (x1 : Int32) (x2 : Int64) (x4 : Int32)
    (k1 : ¬ x4 < x1 → B (some (.int (s 117 1))) s)
    (k2 : x4 < x1 → (s 117 1) < 0 → q_W G (d + 1) jm_C_feed B 35 [some (.ref 0), some (.int x1), some (.long x2), none, some (.int (x4 + 1))] [] s)
    (k3 : x4 < x1 → ¬ (s 117 1) < 0 → (s 117 1) < 200 → ∀ s1 : jg_H, s1 = jg_up s 118 (s 117 1).toNatClampNeg ((((x2 >>> (((8 * x4) : Int32).toInt64 &&& 63)) &&& (255))).toInt32) → ∀ s2 : jg_H, s2 = jg_up s1 117 1 ((s1 117 1) + 1) → q_W G (d + 1) jm_C_feed B 35 [some (.ref 0), some (.int x1), some (.long x2), none, some (.int (x4 + 1))] [] s2)
    (k4 : x4 < x1 → ¬ (s 117 1) < 0 → ¬ (s 117 1) < 200 → q_W G (d + 1) jm_C_feed B 35 [some (.ref 0), some (.int x1), some (.long x2), none, some (.int (x4 + 1))] [] s) :
    q_W G (d + 1) jm_C_feed B 35 [some (.ref 0), some (.int x1), some (.long x2), none, some (.int x4)] [] s := by
  refine q_iload (pc' := 37) ja_C_feed_35 rfl rfl ?_
  refine q_iload_n (pc' := 38) ja_C_feed_37 rfl rfl ?_
  refine q_ic_ge (pc' := 41) ja_C_feed_38 rfl ?_ ?_
  · intro h1
    refine q_aload_n (pc' := 67) ja_C_feed_66 rfl rfl ?_
    refine q_getf (pc' := 70) (v := .ref 117) ja_C_feed_67 rfl (by decide) ⟨rfl, by decide⟩ rfl ?_
    refine q_getf (pc' := 73) (v := .int (s 117 1)) ja_C_feed_70 rfl (by decide) ⟨rfl, by decide⟩ rfl ?_
    exact q_iret ja_C_feed_73 rfl rfl (k1 h1)
  · intro h2
    refine q_aload_n (pc' := 42) ja_C_feed_41 rfl rfl ?_
    refine q_getf (pc' := 45) (v := .ref 117) ja_C_feed_42 rfl (by decide) ⟨rfl, by decide⟩ rfl ?_
    refine q_lload_n (pc' := 46) ja_C_feed_45 rfl rfl ?_
    refine q_bipush (pc' := 48) ja_C_feed_46 rfl 8 (by decide) ?_
    refine q_iload (pc' := 50) ja_C_feed_48 rfl rfl ?_
    refine q_imul (pc' := 51) ja_C_feed_50 rfl ?_
    refine q_lshr (pc' := 52) ja_C_feed_51 rfl ?_
    refine q_ldc2 (pc' := 55) ja_C_feed_52 rfl (255) (by decide) ?_
    refine q_land (pc' := 56) ja_C_feed_55 rfl ?_
    refine q_l2i (pc' := 57) ja_C_feed_56 rfl ?_
    refine q_virt (pc' := 60) (c := 117) (as := [.int (((x2 >>> (((8 * x4) : Int32).toInt64 &&& 63)) &&& (255))).toInt32]) (r := []) ja_C_feed_57 rfl rfl rfl (by decide) ⟨rfl, by decide⟩ ?_
    refine q_in (M := jm_Reader_add) rfl (Nat.le_of_ble_eq_true rfl) (ls := [some (.ref 117), some (.int (((x2 >>> (((8 * x4) : Int32).toInt64 &&& 63)) &&& (255))).toInt32)]) rfl ?_
    refine q_aload_n (pc' := 1) ja_Reader_add_0 rfl rfl ?_
    refine q_getf (pc' := 4) (v := .int (s 117 1)) ja_Reader_add_1 rfl (by decide) ⟨rfl, by decide⟩ rfl ?_
    refine q_if_lt (pc' := 7) ja_Reader_add_4 rfl ?_ ?_
    · intro h3
      refine q_vret ja_Reader_add_19 rfl ?_
      show q_W _ _ _ _ 60 [some (.ref 0), some (.int x1), some (.long x2), none, some (.int x4)] [] s
      refine q_iinc (pc' := 63) (ls' := [some (.ref 0), some (.int x1), some (.long x2), none, some (.int (x4 + 1))]) ja_C_feed_60 rfl rfl (x4 + 1) rfl ⟨Nat.le_of_ble_eq_true rfl, rfl⟩ rfl ?_
      refine q_goto ja_C_feed_63 ?_
      exact (k2 h2 h3)
    · intro h4
      refine q_aload_n (pc' := 8) ja_Reader_add_7 rfl rfl ?_
      refine q_getf (pc' := 11) (v := .int (s 117 1)) ja_Reader_add_8 rfl (by decide) ⟨rfl, by decide⟩ rfl ?_
      refine q_aload_n (pc' := 12) ja_Reader_add_11 rfl rfl ?_
      refine q_getf (pc' := 15) (v := .ref 118) ja_Reader_add_12 rfl (by decide) ⟨rfl, by decide⟩ rfl ?_
      refine q_alen (pc' := 16) ja_Reader_add_15 rfl (by decide) (kd := 13) (l := 200) rfl (by decide) (v := 200) (by decide) ?_
      refine q_ic_lt (pc' := 19) ja_Reader_add_16 rfl ?_ ?_
      · intro h5
        refine q_aload_n (pc' := 21) ja_Reader_add_20 rfl rfl ?_
        refine q_getf (pc' := 24) (v := .ref 118) ja_Reader_add_21 rfl (by decide) ⟨rfl, by decide⟩ rfl ?_
        refine q_aload_n (pc' := 25) ja_Reader_add_24 rfl rfl ?_
        refine q_getf (pc' := 28) (v := .int (s 117 1)) ja_Reader_add_25 rfl (by decide) ⟨rfl, by decide⟩ rfl ?_
        refine q_iload_n (pc' := 29) ja_Reader_add_28 rfl rfl ?_
        refine q_iast (pc' := 30) ja_Reader_add_29 rfl (by decide) (l := 200) rfl (q_inr (l := 200) (by decide) h4 h5) ?_
        intro s1 e1
        refine q_aload_n (pc' := 31) ja_Reader_add_30 rfl rfl ?_
        refine q_dup (pc' := 32) ja_Reader_add_31 rfl rfl ?_
        refine q_getf (pc' := 35) (v := .int (s1 117 1)) ja_Reader_add_32 rfl (by decide) ⟨rfl, by decide⟩ rfl ?_
        refine q_iconst (pc' := 36) ja_Reader_add_35 rfl 1 (by decide) ?_
        refine q_iadd (pc' := 37) ja_Reader_add_36 rfl ?_
        refine q_putf (pc' := 40) ja_Reader_add_37 rfl (by decide) rfl rfl rfl ?_
        intro s2 e2
        refine q_vret ja_Reader_add_40 rfl ?_
        show q_W _ _ _ _ 60 [some (.ref 0), some (.int x1), some (.long x2), none, some (.int x4)] [] s2
        refine q_iinc (pc' := 63) (ls' := [some (.ref 0), some (.int x1), some (.long x2), none, some (.int (x4 + 1))]) ja_C_feed_60 rfl rfl (x4 + 1) rfl ⟨Nat.le_of_ble_eq_true rfl, rfl⟩ rfl ?_
        refine q_goto ja_C_feed_63 ?_
        exact (k3 h2 h4 h5 s1 e1 s2 e2)
      · intro h6
        refine q_vret ja_Reader_add_19 rfl ?_
        show q_W _ _ _ _ 60 [some (.ref 0), some (.int x1), some (.long x2), none, some (.int x4)] [] s
        refine q_iinc (pc' := 63) (ls' := [some (.ref 0), some (.int x1), some (.long x2), none, some (.int (x4 + 1))]) ja_C_feed_60 rfl rfl (x4 + 1) rfl ⟨Nat.le_of_ble_eq_true rfl, rfl⟩ rfl ?_
        refine q_goto ja_C_feed_63 ?_
        exact (k4 h2 h4 h6)
set_option maxRecDepth 20000 in
theorem t_C_floor {G : jv_X} {d : Nat} {B : Option Value → jg_H → Prop} {s : jg_H} 
    (k1 : (s 0 6) < 0 → B (some (.ref 58)) s)
    (k2 : ¬ (s 0 6) < 0 → ¬ (s 0 6) < (s 0 3) → B (some (.ref 58)) s)
    (k3 : ¬ (s 0 6) < 0 → (s 0 6) < (s 0 3) → ¬ (s 0 6) < 8 → B (some (.ref 58)) s)
    (k4 : ¬ (s 0 6) < 0 → (s 0 6) < (s 0 3) → (s 0 6) < 8 → B (some (.ref ((33 + 3 * (s 0 6).toNatClampNeg) + 1))) s) :
    q_P G (d + 2) 84 [.ref 0] s B := by
  refine q_in (M := jm_C_floor) rfl (Nat.le_of_ble_eq_true rfl) (ls := [some (.ref 0)]) rfl ?_
  refine q_aload_n (pc' := 1) ja_C_floor_0 rfl rfl ?_
  refine q_aload_n (pc' := 2) ja_C_floor_1 rfl rfl ?_
  refine q_getf (pc' := 5) (v := .int (s 0 6)) ja_C_floor_2 rfl (by decide) ⟨rfl, by decide⟩ rfl ?_
  refine q_virt (pc' := 8) (c := 0) (as := [.int (s 0 6)]) (r := []) ja_C_floor_5 rfl rfl rfl (by decide) ⟨rfl, by decide⟩ ?_
  refine q_in (M := jm_C_isBill) rfl (Nat.le_of_ble_eq_true rfl) (ls := [some (.ref 0), some (.int (s 0 6))]) rfl ?_
  refine q_iload_n (pc' := 1) ja_C_isBill_0 rfl rfl ?_
  refine q_if_lt (pc' := 4) ja_C_isBill_1 rfl ?_ ?_
  · intro h1
    refine q_iconst (pc' := 26) ja_C_isBill_25 rfl 0 (by decide) ?_
    refine q_iret ja_C_isBill_26 rfl (by decide) ?_
    show q_W _ _ _ _ 8 [some (.ref 0)] [.int 0] s
    refine q_if_eq (pc' := 11) ja_C_floor_8 rfl (fun _ => ?_) (fun h => absurd ((by decide : (0 : Int32) = 0)) h)
    refine q_aload_n (pc' := 27) ja_C_floor_26 rfl rfl ?_
    refine q_getf (pc' := 30) (v := .ref 58) ja_C_floor_27 rfl (by decide) ⟨rfl, by decide⟩ rfl ?_
    exact q_aret ja_C_floor_30 rfl (k1 h1)
  · intro h2
    refine q_iload_n (pc' := 5) ja_C_isBill_4 rfl rfl ?_
    refine q_aload_n (pc' := 6) ja_C_isBill_5 rfl rfl ?_
    refine q_getf (pc' := 9) (v := .int (s 0 3)) ja_C_isBill_6 rfl (by decide) ⟨rfl, by decide⟩ rfl ?_
    refine q_ic_ge (pc' := 12) ja_C_isBill_9 rfl ?_ ?_
    · intro h3
      refine q_iconst (pc' := 26) ja_C_isBill_25 rfl 0 (by decide) ?_
      refine q_iret ja_C_isBill_26 rfl (by decide) ?_
      show q_W _ _ _ _ 8 [some (.ref 0)] [.int 0] s
      refine q_if_eq (pc' := 11) ja_C_floor_8 rfl (fun _ => ?_) (fun h => absurd ((by decide : (0 : Int32) = 0)) h)
      refine q_aload_n (pc' := 27) ja_C_floor_26 rfl rfl ?_
      refine q_getf (pc' := 30) (v := .ref 58) ja_C_floor_27 rfl (by decide) ⟨rfl, by decide⟩ rfl ?_
      exact q_aret ja_C_floor_30 rfl (k2 h2 h3)
    · intro h4
      refine q_iload_n (pc' := 13) ja_C_isBill_12 rfl rfl ?_
      refine q_aload_n (pc' := 14) ja_C_isBill_13 rfl rfl ?_
      refine q_getf (pc' := 17) (v := .ref 32) ja_C_isBill_14 rfl (by decide) ⟨rfl, by decide⟩ rfl ?_
      refine q_alen (pc' := 18) ja_C_isBill_17 rfl (by decide) (kd := 17) (l := 8) rfl (by decide) (v := 8) (by decide) ?_
      refine q_ic_ge (pc' := 21) ja_C_isBill_18 rfl ?_ ?_
      · intro h5
        refine q_iconst (pc' := 26) ja_C_isBill_25 rfl 0 (by decide) ?_
        refine q_iret ja_C_isBill_26 rfl (by decide) ?_
        show q_W _ _ _ _ 8 [some (.ref 0)] [.int 0] s
        refine q_if_eq (pc' := 11) ja_C_floor_8 rfl (fun _ => ?_) (fun h => absurd ((by decide : (0 : Int32) = 0)) h)
        refine q_aload_n (pc' := 27) ja_C_floor_26 rfl rfl ?_
        refine q_getf (pc' := 30) (v := .ref 58) ja_C_floor_27 rfl (by decide) ⟨rfl, by decide⟩ rfl ?_
        exact q_aret ja_C_floor_30 rfl (k3 h2 h4 h5)
      · intro h6
        refine q_iconst (pc' := 22) ja_C_isBill_21 rfl 1 (by decide) ?_
        refine q_goto ja_C_isBill_22 ?_
        refine q_iret ja_C_isBill_26 rfl (by decide) ?_
        show q_W _ _ _ _ 8 [some (.ref 0)] [.int 1] s
        refine q_if_eq (pc' := 11) ja_C_floor_8 rfl (fun h => absurd h ((by decide : ¬ (1 : Int32) = 0))) (fun _ => ?_)
        refine q_aload_n (pc' := 12) ja_C_floor_11 rfl rfl ?_
        refine q_getf (pc' := 15) (v := .ref 32) ja_C_floor_12 rfl (by decide) ⟨rfl, by decide⟩ rfl ?_
        refine q_aload_n (pc' := 16) ja_C_floor_15 rfl rfl ?_
        refine q_getf (pc' := 19) (v := .int (s 0 6)) ja_C_floor_16 rfl (by decide) ⟨rfl, by decide⟩ rfl ?_
        refine q_aald (pc' := 20) (v := .ref (33 + 3 * (s 0 6).toNatClampNeg)) ja_C_floor_19 rfl (by decide) (kd := 17) (l := 8) rfl (by decide) (q_inr (l := 8) (by decide) h2 h6) (f_A32 (f_in (q_inr (l := 8) (by decide) h2 h6))) ?_
        refine q_getf (pc' := 23) (v := .ref ((33 + 3 * (s 0 6).toNatClampNeg) + 1)) ja_C_floor_20 rfl (f_1_c (f_m32 (f_in (q_inr (l := 8) (by decide) h2 h6)))) ⟨by rw [f_1_k (f_m32 (f_in (q_inr (l := 8) (by decide) h2 h6)))], by decide⟩ (f_1_g2 (f_m32 (f_in (q_inr (l := 8) (by decide) h2 h6)))) ?_
        refine q_goto ja_C_floor_23 ?_
        exact q_aret ja_C_floor_30 rfl (k4 h2 h4 h6)
set_option maxRecDepth 20000 in
theorem t_C_foresee {G : jv_X} {d : Nat} {B : Option Value → jg_H → Prop} {s : jg_H} (a1 : Int32) (a2 : Int32)
    (k1 : a2 < 0 → B (some (.long (-4611686018427387904))) s)
    (k2 : ¬ a2 < 0 → ¬ a2 < (s 0 1) → B (some (.long (-4611686018427387904))) s)
    (k3 : ¬ a2 < 0 → a2 < (s 0 1) → ¬ a2 < 15 → B (some (.long (-4611686018427387904))) s)
    (k4 : ¬ a2 < 0 → a2 < (s 0 1) → a2 < 15 → (s 0 6) = (-1) → B (some (.long (-4611686018427387904))) s)
    (k5 : ¬ a2 < 0 → a2 < (s 0 1) → a2 < 15 → ¬ (s 0 6) = (-1) → q_P G (d + 2) 108 [.ref 65, .int a1] s (fun v t => q_W G (d + 2) jm_C_foresee B 24 [some (.ref 0), some (.int a1), some (.int a2), none, none] (v.toList ++ []) t)) :
    q_P G (d + 3) 107 [.ref 0, .int a1, .int a2] s B := by
  refine q_in (M := jm_C_foresee) rfl (Nat.le_of_ble_eq_true rfl) (ls := [some (.ref 0), some (.int a1), some (.int a2), none, none]) rfl ?_
  refine q_aload_n (pc' := 1) ja_C_foresee_0 rfl rfl ?_
  refine q_iload_n (pc' := 2) ja_C_foresee_1 rfl rfl ?_
  refine q_virt (pc' := 5) (c := 0) (as := [.int a2]) (r := []) ja_C_foresee_2 rfl rfl rfl (by decide) ⟨rfl, by decide⟩ ?_
  refine q_in (M := jm_C_isMember) rfl (Nat.le_of_ble_eq_true rfl) (ls := [some (.ref 0), some (.int a2)]) rfl ?_
  refine q_iload_n (pc' := 1) ja_C_isMember_0 rfl rfl ?_
  refine q_if_lt (pc' := 4) ja_C_isMember_1 rfl ?_ ?_
  · intro h1
    refine q_iconst (pc' := 26) ja_C_isMember_25 rfl 0 (by decide) ?_
    refine q_iret ja_C_isMember_26 rfl (by decide) ?_
    show q_W _ _ _ _ 5 [some (.ref 0), some (.int a1), some (.int a2), none, none] [.int 0] s
    refine q_if_eq (pc' := 8) ja_C_foresee_5 rfl (fun _ => ?_) (fun h => absurd ((by decide : (0 : Int32) = 0)) h)
    refine q_ldc2 (pc' := 30) ja_C_foresee_27 rfl (-4611686018427387904) (by decide) ?_
    exact q_lret ja_C_foresee_30 rfl (k1 h1)
  · intro h2
    refine q_iload_n (pc' := 5) ja_C_isMember_4 rfl rfl ?_
    refine q_aload_n (pc' := 6) ja_C_isMember_5 rfl rfl ?_
    refine q_getf (pc' := 9) (v := .int (s 0 1)) ja_C_isMember_6 rfl (by decide) ⟨rfl, by decide⟩ rfl ?_
    refine q_ic_ge (pc' := 12) ja_C_isMember_9 rfl ?_ ?_
    · intro h3
      refine q_iconst (pc' := 26) ja_C_isMember_25 rfl 0 (by decide) ?_
      refine q_iret ja_C_isMember_26 rfl (by decide) ?_
      show q_W _ _ _ _ 5 [some (.ref 0), some (.int a1), some (.int a2), none, none] [.int 0] s
      refine q_if_eq (pc' := 8) ja_C_foresee_5 rfl (fun _ => ?_) (fun h => absurd ((by decide : (0 : Int32) = 0)) h)
      refine q_ldc2 (pc' := 30) ja_C_foresee_27 rfl (-4611686018427387904) (by decide) ?_
      exact q_lret ja_C_foresee_30 rfl (k2 h2 h3)
    · intro h4
      refine q_iload_n (pc' := 13) ja_C_isMember_12 rfl rfl ?_
      refine q_aload_n (pc' := 14) ja_C_isMember_13 rfl rfl ?_
      refine q_getf (pc' := 17) (v := .ref 1) ja_C_isMember_14 rfl (by decide) ⟨rfl, by decide⟩ rfl ?_
      refine q_alen (pc' := 18) ja_C_isMember_17 rfl (by decide) (kd := 16) (l := 15) rfl (by decide) (v := 15) (by decide) ?_
      refine q_ic_ge (pc' := 21) ja_C_isMember_18 rfl ?_ ?_
      · intro h5
        refine q_iconst (pc' := 26) ja_C_isMember_25 rfl 0 (by decide) ?_
        refine q_iret ja_C_isMember_26 rfl (by decide) ?_
        show q_W _ _ _ _ 5 [some (.ref 0), some (.int a1), some (.int a2), none, none] [.int 0] s
        refine q_if_eq (pc' := 8) ja_C_foresee_5 rfl (fun _ => ?_) (fun h => absurd ((by decide : (0 : Int32) = 0)) h)
        refine q_ldc2 (pc' := 30) ja_C_foresee_27 rfl (-4611686018427387904) (by decide) ?_
        exact q_lret ja_C_foresee_30 rfl (k3 h2 h4 h5)
      · intro h6
        refine q_iconst (pc' := 22) ja_C_isMember_21 rfl 1 (by decide) ?_
        refine q_goto ja_C_isMember_22 ?_
        refine q_iret ja_C_isMember_26 rfl (by decide) ?_
        show q_W _ _ _ _ 5 [some (.ref 0), some (.int a1), some (.int a2), none, none] [.int 1] s
        refine q_if_eq (pc' := 8) ja_C_foresee_5 rfl (fun h => absurd h ((by decide : ¬ (1 : Int32) = 0))) (fun _ => ?_)
        refine q_aload_n (pc' := 9) ja_C_foresee_8 rfl rfl ?_
        refine q_getf (pc' := 12) (v := .int (s 0 6)) ja_C_foresee_9 rfl (by decide) ⟨rfl, by decide⟩ rfl ?_
        refine q_iconst (pc' := 13) ja_C_foresee_12 rfl (-1) (by decide) ?_
        refine q_ic_eq (pc' := 16) ja_C_foresee_13 rfl ?_ ?_
        · intro h7
          refine q_ldc2 (pc' := 30) ja_C_foresee_27 rfl (-4611686018427387904) (by decide) ?_
          exact q_lret ja_C_foresee_30 rfl (k4 h2 h4 h6 h7)
        · intro h8
          refine q_aload_n (pc' := 17) ja_C_foresee_16 rfl rfl ?_
          refine q_getf (pc' := 20) (v := .ref 65) ja_C_foresee_17 rfl (by decide) ⟨rfl, by decide⟩ rfl ?_
          refine q_iload_n (pc' := 21) ja_C_foresee_20 rfl rfl ?_
          refine q_virt (pc' := 24) (c := 65) (as := [.int a1]) (r := []) ja_C_foresee_21 rfl rfl rfl (by decide) ⟨rfl, by decide⟩ ?_
          exact (k5 h2 h4 h6 h8)
set_option maxRecDepth 20000 in
theorem t_C_foresee_24 {G : jv_X} {d : Nat} {B : Option Value → jg_H → Prop} {s : jg_H} (x1 : Int32) (x2 : Int32) (y0 : Int32)
    (k1 : ¬ y0 = 0 → (s 0 6) < 0 → q_P G (d + 2) 109 [.ref 65, .ref 58] s (fun v t => q_W G (d + 2) jm_C_foresee B 42 [some (.ref 0), some (.int x1), some (.int x2), none, none] (v.toList ++ []) t))
    (k2 : ¬ y0 = 0 → ¬ (s 0 6) < 0 → ¬ (s 0 6) < (s 0 3) → q_P G (d + 2) 109 [.ref 65, .ref 58] s (fun v t => q_W G (d + 2) jm_C_foresee B 42 [some (.ref 0), some (.int x1), some (.int x2), none, none] (v.toList ++ []) t))
    (k3 : ¬ y0 = 0 → ¬ (s 0 6) < 0 → (s 0 6) < (s 0 3) → ¬ (s 0 6) < 8 → q_P G (d + 2) 109 [.ref 65, .ref 58] s (fun v t => q_W G (d + 2) jm_C_foresee B 42 [some (.ref 0), some (.int x1), some (.int x2), none, none] (v.toList ++ []) t))
    (k4 : ¬ y0 = 0 → ¬ (s 0 6) < 0 → (s 0 6) < (s 0 3) → (s 0 6) < 8 → q_P G (d + 2) 109 [.ref 65, .ref ((33 + 3 * (s 0 6).toNatClampNeg) + 1)] s (fun v t => q_W G (d + 2) jm_C_foresee B 42 [some (.ref 0), some (.int x1), some (.int x2), none, none] (v.toList ++ []) t))
    (k5 : y0 = 0 → B (some (.long (-4611686018427387904))) s) :
    q_W G (d + 2) jm_C_foresee B 24 [some (.ref 0), some (.int x1), some (.int x2), none, none] [.int y0] s := by
  refine q_if_ne (pc' := 27) ja_C_foresee_24 rfl ?_ ?_
  · intro h1
    refine q_aload_n (pc' := 32) ja_C_foresee_31 rfl rfl ?_
    refine q_getf (pc' := 35) (v := .ref 65) ja_C_foresee_32 rfl (by decide) ⟨rfl, by decide⟩ rfl ?_
    refine q_aload_n (pc' := 36) ja_C_foresee_35 rfl rfl ?_
    refine q_virt (pc' := 39) (c := 0) (as := []) (r := [.ref 65]) ja_C_foresee_36 rfl rfl rfl (by decide) ⟨rfl, by decide⟩ ?_
    refine q_in (M := jm_C_floor) rfl (Nat.le_of_ble_eq_true rfl) (ls := [some (.ref 0)]) rfl ?_
    refine q_aload_n (pc' := 1) ja_C_floor_0 rfl rfl ?_
    refine q_aload_n (pc' := 2) ja_C_floor_1 rfl rfl ?_
    refine q_getf (pc' := 5) (v := .int (s 0 6)) ja_C_floor_2 rfl (by decide) ⟨rfl, by decide⟩ rfl ?_
    refine q_virt (pc' := 8) (c := 0) (as := [.int (s 0 6)]) (r := []) ja_C_floor_5 rfl rfl rfl (by decide) ⟨rfl, by decide⟩ ?_
    refine q_in (M := jm_C_isBill) rfl (Nat.le_of_ble_eq_true rfl) (ls := [some (.ref 0), some (.int (s 0 6))]) rfl ?_
    refine q_iload_n (pc' := 1) ja_C_isBill_0 rfl rfl ?_
    refine q_if_lt (pc' := 4) ja_C_isBill_1 rfl ?_ ?_
    · intro h2
      refine q_iconst (pc' := 26) ja_C_isBill_25 rfl 0 (by decide) ?_
      refine q_iret ja_C_isBill_26 rfl (by decide) ?_
      show q_W _ _ _ _ 8 [some (.ref 0)] [.int 0] s
      refine q_if_eq (pc' := 11) ja_C_floor_8 rfl (fun _ => ?_) (fun h => absurd ((by decide : (0 : Int32) = 0)) h)
      refine q_aload_n (pc' := 27) ja_C_floor_26 rfl rfl ?_
      refine q_getf (pc' := 30) (v := .ref 58) ja_C_floor_27 rfl (by decide) ⟨rfl, by decide⟩ rfl ?_
      refine q_aret ja_C_floor_30 rfl ?_
      show q_W _ _ _ _ 39 [some (.ref 0), some (.int x1), some (.int x2), none, none] [.ref 58, .ref 65] s
      refine q_virt (pc' := 42) (c := 65) (as := [.ref 58]) (r := []) ja_C_foresee_39 rfl rfl rfl (by decide) ⟨rfl, by decide⟩ ?_
      exact (k1 h1 h2)
    · intro h3
      refine q_iload_n (pc' := 5) ja_C_isBill_4 rfl rfl ?_
      refine q_aload_n (pc' := 6) ja_C_isBill_5 rfl rfl ?_
      refine q_getf (pc' := 9) (v := .int (s 0 3)) ja_C_isBill_6 rfl (by decide) ⟨rfl, by decide⟩ rfl ?_
      refine q_ic_ge (pc' := 12) ja_C_isBill_9 rfl ?_ ?_
      · intro h4
        refine q_iconst (pc' := 26) ja_C_isBill_25 rfl 0 (by decide) ?_
        refine q_iret ja_C_isBill_26 rfl (by decide) ?_
        show q_W _ _ _ _ 8 [some (.ref 0)] [.int 0] s
        refine q_if_eq (pc' := 11) ja_C_floor_8 rfl (fun _ => ?_) (fun h => absurd ((by decide : (0 : Int32) = 0)) h)
        refine q_aload_n (pc' := 27) ja_C_floor_26 rfl rfl ?_
        refine q_getf (pc' := 30) (v := .ref 58) ja_C_floor_27 rfl (by decide) ⟨rfl, by decide⟩ rfl ?_
        refine q_aret ja_C_floor_30 rfl ?_
        show q_W _ _ _ _ 39 [some (.ref 0), some (.int x1), some (.int x2), none, none] [.ref 58, .ref 65] s
        refine q_virt (pc' := 42) (c := 65) (as := [.ref 58]) (r := []) ja_C_foresee_39 rfl rfl rfl (by decide) ⟨rfl, by decide⟩ ?_
        exact (k2 h1 h3 h4)
      · intro h5
        refine q_iload_n (pc' := 13) ja_C_isBill_12 rfl rfl ?_
        refine q_aload_n (pc' := 14) ja_C_isBill_13 rfl rfl ?_
        refine q_getf (pc' := 17) (v := .ref 32) ja_C_isBill_14 rfl (by decide) ⟨rfl, by decide⟩ rfl ?_
        refine q_alen (pc' := 18) ja_C_isBill_17 rfl (by decide) (kd := 17) (l := 8) rfl (by decide) (v := 8) (by decide) ?_
        refine q_ic_ge (pc' := 21) ja_C_isBill_18 rfl ?_ ?_
        · intro h6
          refine q_iconst (pc' := 26) ja_C_isBill_25 rfl 0 (by decide) ?_
          refine q_iret ja_C_isBill_26 rfl (by decide) ?_
          show q_W _ _ _ _ 8 [some (.ref 0)] [.int 0] s
          refine q_if_eq (pc' := 11) ja_C_floor_8 rfl (fun _ => ?_) (fun h => absurd ((by decide : (0 : Int32) = 0)) h)
          refine q_aload_n (pc' := 27) ja_C_floor_26 rfl rfl ?_
          refine q_getf (pc' := 30) (v := .ref 58) ja_C_floor_27 rfl (by decide) ⟨rfl, by decide⟩ rfl ?_
          refine q_aret ja_C_floor_30 rfl ?_
          show q_W _ _ _ _ 39 [some (.ref 0), some (.int x1), some (.int x2), none, none] [.ref 58, .ref 65] s
          refine q_virt (pc' := 42) (c := 65) (as := [.ref 58]) (r := []) ja_C_foresee_39 rfl rfl rfl (by decide) ⟨rfl, by decide⟩ ?_
          exact (k3 h1 h3 h5 h6)
        · intro h7
          refine q_iconst (pc' := 22) ja_C_isBill_21 rfl 1 (by decide) ?_
          refine q_goto ja_C_isBill_22 ?_
          refine q_iret ja_C_isBill_26 rfl (by decide) ?_
          show q_W _ _ _ _ 8 [some (.ref 0)] [.int 1] s
          refine q_if_eq (pc' := 11) ja_C_floor_8 rfl (fun h => absurd h ((by decide : ¬ (1 : Int32) = 0))) (fun _ => ?_)
          refine q_aload_n (pc' := 12) ja_C_floor_11 rfl rfl ?_
          refine q_getf (pc' := 15) (v := .ref 32) ja_C_floor_12 rfl (by decide) ⟨rfl, by decide⟩ rfl ?_
          refine q_aload_n (pc' := 16) ja_C_floor_15 rfl rfl ?_
          refine q_getf (pc' := 19) (v := .int (s 0 6)) ja_C_floor_16 rfl (by decide) ⟨rfl, by decide⟩ rfl ?_
          refine q_aald (pc' := 20) (v := .ref (33 + 3 * (s 0 6).toNatClampNeg)) ja_C_floor_19 rfl (by decide) (kd := 17) (l := 8) rfl (by decide) (q_inr (l := 8) (by decide) h3 h7) (f_A32 (f_in (q_inr (l := 8) (by decide) h3 h7))) ?_
          refine q_getf (pc' := 23) (v := .ref ((33 + 3 * (s 0 6).toNatClampNeg) + 1)) ja_C_floor_20 rfl (f_1_c (f_m32 (f_in (q_inr (l := 8) (by decide) h3 h7)))) ⟨by rw [f_1_k (f_m32 (f_in (q_inr (l := 8) (by decide) h3 h7)))], by decide⟩ (f_1_g2 (f_m32 (f_in (q_inr (l := 8) (by decide) h3 h7)))) ?_
          refine q_goto ja_C_floor_23 ?_
          refine q_aret ja_C_floor_30 rfl ?_
          show q_W _ _ _ _ 39 [some (.ref 0), some (.int x1), some (.int x2), none, none] [.ref ((33 + 3 * (s 0 6).toNatClampNeg) + 1), .ref 65] s
          refine q_virt (pc' := 42) (c := 65) (as := [.ref ((33 + 3 * (s 0 6).toNatClampNeg) + 1)]) (r := []) ja_C_foresee_39 rfl rfl rfl (by decide) ⟨rfl, by decide⟩ ?_
          exact (k4 h1 h3 h5 h7)
  · intro h8
    refine q_ldc2 (pc' := 30) ja_C_foresee_27 rfl (-4611686018427387904) (by decide) ?_
    exact q_lret ja_C_foresee_30 rfl (k5 h8)
set_option maxRecDepth 20000 in
theorem t_C_foresee_42 {G : jv_X} {d : Nat} {B : Option Value → jg_H → Prop} {s : jg_H} (x1 : Int32) (x2 : Int32)
    (k1 : q_W G (d + 2) jm_C_foresee B 47 [some (.ref 0), some (.int x1), some (.int x2), some (.int x1), some (.int 0)] [] s) :
    q_W G (d + 2) jm_C_foresee B 42 [some (.ref 0), some (.int x1), some (.int x2), none, none] [] s := by
  refine q_iload_n (pc' := 43) ja_C_foresee_42 rfl rfl ?_
  refine q_istore_n (pc' := 44) (ls' := [some (.ref 0), some (.int x1), some (.int x2), some (.int x1), none]) ja_C_foresee_43 rfl ⟨Nat.le_of_ble_eq_true rfl, rfl⟩ rfl ?_
  refine q_iconst (pc' := 45) ja_C_foresee_44 rfl 0 (by decide) ?_
  refine q_istore (pc' := 47) (ls' := [some (.ref 0), some (.int x1), some (.int x2), some (.int x1), some (.int 0)]) ja_C_foresee_45 rfl ⟨Nat.le_of_ble_eq_true rfl, rfl⟩ rfl ?_
  exact k1
set_option maxRecDepth 20000 in
theorem t_C_foresee_47 {G : jv_X} {d : Nat} {B : Option Value → jg_H → Prop} {s : jg_H} (x1 : Int32) (x2 : Int32) (x3 : Int32) (x4 : Int32)
    (k1 : ¬ x4 < (s 66 0) → jv_in x2 15 = true)
    (k2 : ¬ x4 < (s 66 0) → q_P G (d + 2) 113 [.ref 65, .ref (2 + 2 * x2.toNatClampNeg)] s (fun v t => q_W G (d + 2) jm_C_foresee B 96 [some (.ref 0), some (.int x1), some (.int x2), some (.int x3), some (.int x4)] (v.toList ++ []) t))
    (k3 : x4 < (s 66 0) → q_P G (d + 2) 111 [.ref 0, .int x4, .int (x3 - x3 / 6 * 6)] s (fun v t => q_W G (d + 2) jm_C_foresee B 72 [some (.ref 0), some (.int x1), some (.int x2), some (.int x3), some (.int x4)] (v.toList ++ []) t)) :
    q_W G (d + 2) jm_C_foresee B 47 [some (.ref 0), some (.int x1), some (.int x2), some (.int x3), some (.int x4)] [] s := by
  refine q_iload (pc' := 49) ja_C_foresee_47 rfl rfl ?_
  refine q_aload_n (pc' := 50) ja_C_foresee_49 rfl rfl ?_
  refine q_getf (pc' := 53) (v := .ref 65) ja_C_foresee_50 rfl (by decide) ⟨rfl, by decide⟩ rfl ?_
  refine q_getf (pc' := 56) (v := .ref 66) ja_C_foresee_53 rfl (by decide) ⟨rfl, by decide⟩ rfl ?_
  refine q_getf (pc' := 59) (v := .int (s 66 0)) ja_C_foresee_56 rfl (by decide) ⟨rfl, by decide⟩ rfl ?_
  refine q_ic_ge (pc' := 62) ja_C_foresee_59 rfl ?_ ?_
  · intro h1
    refine q_aload_n (pc' := 84) ja_C_foresee_83 rfl rfl ?_
    refine q_getf (pc' := 87) (v := .ref 65) ja_C_foresee_84 rfl (by decide) ⟨rfl, by decide⟩ rfl ?_
    refine q_aload_n (pc' := 88) ja_C_foresee_87 rfl rfl ?_
    refine q_getf (pc' := 91) (v := .ref 1) ja_C_foresee_88 rfl (by decide) ⟨rfl, by decide⟩ rfl ?_
    refine q_iload_n (pc' := 92) ja_C_foresee_91 rfl rfl ?_
    refine q_aald (pc' := 93) (v := .ref (2 + 2 * x2.toNatClampNeg)) ja_C_foresee_92 rfl (by decide) (kd := 16) (l := 15) rfl (by decide) (k1 h1) (f_A1 (f_in (k1 h1))) ?_
    refine q_virt (pc' := 96) (c := 65) (as := [.ref (2 + 2 * x2.toNatClampNeg)]) (r := []) ja_C_foresee_93 rfl rfl rfl (by decide) ⟨rfl, by decide⟩ ?_
    exact (k2 h1)
  · intro h2
    refine q_aload_n (pc' := 63) ja_C_foresee_62 rfl rfl ?_
    refine q_iload (pc' := 65) ja_C_foresee_63 rfl rfl ?_
    refine q_iload_n (pc' := 66) ja_C_foresee_65 rfl rfl ?_
    refine q_bipush (pc' := 68) ja_C_foresee_66 rfl 6 (by decide) ?_
    refine q_irem (pc' := 69) ja_C_foresee_68 rfl (by decide) ?_
    refine q_virt (pc' := 72) (c := 0) (as := [.int x4, .int (x3 - x3 / 6 * 6)]) (r := []) ja_C_foresee_69 rfl rfl rfl (by decide) ⟨rfl, by decide⟩ ?_
    exact (k3 h2)
set_option maxRecDepth 20000 in
theorem t_C_foresee_72 {G : jv_X} {d : Nat} {B : Option Value → jg_H → Prop} {s : jg_H} (x1 : Int32) (x2 : Int32) (x3 : Int32) (x4 : Int32)
    (k1 : q_W G (d + 2) jm_C_foresee B 47 [some (.ref 0), some (.int x1), some (.int x2), some (.int (x3 / 6)), some (.int (x4 + 1))] [] s) :
    q_W G (d + 2) jm_C_foresee B 72 [some (.ref 0), some (.int x1), some (.int x2), some (.int x3), some (.int x4)] [] s := by
  refine q_iload_n (pc' := 73) ja_C_foresee_72 rfl rfl ?_
  refine q_bipush (pc' := 75) ja_C_foresee_73 rfl 6 (by decide) ?_
  refine q_idiv (pc' := 76) ja_C_foresee_75 rfl (by decide) ?_
  refine q_istore_n (pc' := 77) (ls' := [some (.ref 0), some (.int x1), some (.int x2), some (.int (x3 / 6)), some (.int x4)]) ja_C_foresee_76 rfl ⟨Nat.le_of_ble_eq_true rfl, rfl⟩ rfl ?_
  refine q_iinc (pc' := 80) (ls' := [some (.ref 0), some (.int x1), some (.int x2), some (.int (x3 / 6)), some (.int (x4 + 1))]) ja_C_foresee_77 rfl rfl (x4 + 1) rfl ⟨Nat.le_of_ble_eq_true rfl, rfl⟩ rfl ?_
  refine q_goto ja_C_foresee_80 ?_
  exact k1
set_option maxRecDepth 20000 in
theorem t_C_foresee_96 {G : jv_X} {d : Nat} {B : Option Value → jg_H → Prop} {s : jg_H} (x1 : Int32) (x2 : Int32) (x3 : Int32) (x4 : Int32) (y0 : Int32)
    (k1 : B (some (.long (y0).toInt64)) s) :
    q_W G (d + 2) jm_C_foresee B 96 [some (.ref 0), some (.int x1), some (.int x2), some (.int x3), some (.int x4)] [.int y0] s := by
  refine q_i2l (pc' := 97) ja_C_foresee_96 rfl ?_
  exact q_lret ja_C_foresee_97 rfl k1
set_option maxRecDepth 20000 in
theorem t_C_foreseeOne {G : jv_X} {d : Nat} {B : Option Value → jg_H → Prop} {s : jg_H} (a1 : Int32) (a2 : Int32)
    (k1 : a2 < 0 → B none s)
    (k2 : ¬ a2 < 0 → ¬ a2 < (s 66 0) → B none s)
    (k3 : ¬ a2 < 0 → a2 < (s 66 0) → ¬ a2 < (s 66 1) → B none s)
    (k4 : ¬ a2 < 0 → a2 < (s 66 0) → a2 < (s 66 1) → q_P G (d + 1) 112 [.ref 65, .int a1] s (fun v t => q_W G (d + 1) jm_C_foreseeOne B 22 [some (.ref 0), some (.int a1), some (.int a2), none, none, none, none, none] (v.toList ++ []) t)) :
    q_P G (d + 2) 111 [.ref 0, .int a1, .int a2] s B := by
  refine q_in (M := jm_C_foreseeOne) rfl (Nat.le_of_ble_eq_true rfl) (ls := [some (.ref 0), some (.int a1), some (.int a2), none, none, none, none, none]) rfl ?_
  refine q_aload_n (pc' := 1) ja_C_foreseeOne_0 rfl rfl ?_
  refine q_getf (pc' := 4) (v := .ref 65) ja_C_foreseeOne_1 rfl (by decide) ⟨rfl, by decide⟩ rfl ?_
  refine q_getf (pc' := 7) (v := .ref 66) ja_C_foreseeOne_4 rfl (by decide) ⟨rfl, by decide⟩ rfl ?_
  refine q_iload_n (pc' := 8) ja_C_foreseeOne_7 rfl rfl ?_
  refine q_virt (pc' := 11) (c := 66) (as := [.int a2]) (r := []) ja_C_foreseeOne_8 rfl rfl rfl (by decide) ⟨rfl, by decide⟩ ?_
  refine q_in (M := jm_Motions_has) rfl (Nat.le_of_ble_eq_true rfl) (ls := [some (.ref 66), some (.int a2)]) rfl ?_
  refine q_iload_n (pc' := 1) ja_Motions_has_0 rfl rfl ?_
  refine q_if_lt (pc' := 4) ja_Motions_has_1 rfl ?_ ?_
  · intro h1
    refine q_iconst (pc' := 25) ja_Motions_has_24 rfl 0 (by decide) ?_
    refine q_iret ja_Motions_has_25 rfl (by decide) ?_
    show q_W _ _ _ _ 11 [some (.ref 0), some (.int a1), some (.int a2), none, none, none, none, none] [.int 0] s
    refine q_if_eq (pc' := 14) ja_C_foreseeOne_11 rfl (fun _ => ?_) (fun h => absurd ((by decide : (0 : Int32) = 0)) h)
    exact q_vret ja_C_foreseeOne_25 rfl (k1 h1)
  · intro h2
    refine q_iload_n (pc' := 5) ja_Motions_has_4 rfl rfl ?_
    refine q_aload_n (pc' := 6) ja_Motions_has_5 rfl rfl ?_
    refine q_getf (pc' := 9) (v := .int (s 66 0)) ja_Motions_has_6 rfl (by decide) ⟨rfl, by decide⟩ rfl ?_
    refine q_ic_ge (pc' := 12) ja_Motions_has_9 rfl ?_ ?_
    · intro h3
      refine q_iconst (pc' := 25) ja_Motions_has_24 rfl 0 (by decide) ?_
      refine q_iret ja_Motions_has_25 rfl (by decide) ?_
      show q_W _ _ _ _ 11 [some (.ref 0), some (.int a1), some (.int a2), none, none, none, none, none] [.int 0] s
      refine q_if_eq (pc' := 14) ja_C_foreseeOne_11 rfl (fun _ => ?_) (fun h => absurd ((by decide : (0 : Int32) = 0)) h)
      exact q_vret ja_C_foreseeOne_25 rfl (k2 h2 h3)
    · intro h4
      refine q_iload_n (pc' := 13) ja_Motions_has_12 rfl rfl ?_
      refine q_aload_n (pc' := 14) ja_Motions_has_13 rfl rfl ?_
      refine q_getf (pc' := 17) (v := .int (s 66 1)) ja_Motions_has_14 rfl (by decide) ⟨rfl, by decide⟩ rfl ?_
      refine q_ic_ge (pc' := 20) ja_Motions_has_17 rfl ?_ ?_
      · intro h5
        refine q_iconst (pc' := 25) ja_Motions_has_24 rfl 0 (by decide) ?_
        refine q_iret ja_Motions_has_25 rfl (by decide) ?_
        show q_W _ _ _ _ 11 [some (.ref 0), some (.int a1), some (.int a2), none, none, none, none, none] [.int 0] s
        refine q_if_eq (pc' := 14) ja_C_foreseeOne_11 rfl (fun _ => ?_) (fun h => absurd ((by decide : (0 : Int32) = 0)) h)
        exact q_vret ja_C_foreseeOne_25 rfl (k3 h2 h4 h5)
      · intro h6
        refine q_iconst (pc' := 21) ja_Motions_has_20 rfl 1 (by decide) ?_
        refine q_goto ja_Motions_has_21 ?_
        refine q_iret ja_Motions_has_25 rfl (by decide) ?_
        show q_W _ _ _ _ 11 [some (.ref 0), some (.int a1), some (.int a2), none, none, none, none, none] [.int 1] s
        refine q_if_eq (pc' := 14) ja_C_foreseeOne_11 rfl (fun h => absurd h ((by decide : ¬ (1 : Int32) = 0))) (fun _ => ?_)
        refine q_aload_n (pc' := 15) ja_C_foreseeOne_14 rfl rfl ?_
        refine q_getf (pc' := 18) (v := .ref 65) ja_C_foreseeOne_15 rfl (by decide) ⟨rfl, by decide⟩ rfl ?_
        refine q_iload_n (pc' := 19) ja_C_foreseeOne_18 rfl rfl ?_
        refine q_virt (pc' := 22) (c := 65) (as := [.int a1]) (r := []) ja_C_foreseeOne_19 rfl rfl rfl (by decide) ⟨rfl, by decide⟩ ?_
        exact (k4 h2 h4 h6)
set_option maxRecDepth 20000 in
theorem t_C_foreseeOne_22 {G : jv_X} {d : Nat} {B : Option Value → jg_H → Prop} {s : jg_H} (x1 : Int32) (x2 : Int32) (y0 : Int32)
    (k1 : ¬ y0 = 0 → jv_in (x1 + 1) 6 = true)
    (k2 : ¬ y0 = 0 → jv_in (x1 + 1) 6 = true)
    (k3 : ¬ y0 = 0 → jv_in x2 5 = true)
    (k4 : ¬ y0 = 0 → jv_in x2 5 = true)
    (k5 : ¬ y0 = 0 → (s (73 + (x1 + 1).toNatClampNeg) x2.toNatClampNeg) < 0 → B none s)
    (k6 : ¬ y0 = 0 → ¬ (s (73 + (x1 + 1).toNatClampNeg) x2.toNatClampNeg) < 0 → ¬ (s 67 x2.toNatClampNeg) = 2 → ¬ (s (73 + (x1 + 1).toNatClampNeg) x2.toNatClampNeg) < (s (80 + 2 * (x1 + 1).toNatClampNeg) 0) → B none s)
    (k7 : ¬ y0 = 0 → ¬ (s (73 + (x1 + 1).toNatClampNeg) x2.toNatClampNeg) < 0 → ¬ (s 67 x2.toNatClampNeg) = 2 → (s (73 + (x1 + 1).toNatClampNeg) x2.toNatClampNeg) < (s (80 + 2 * (x1 + 1).toNatClampNeg) 0) → q_P G (d + 1) 93 [.ref 0, .ref 79, .ref (80 + 2 * (x1 + 1).toNatClampNeg), .ref 66, .int x2, .int (s (73 + (x1 + 1).toNatClampNeg) x2.toNatClampNeg)] s (fun v t => q_W G (d + 1) jm_C_foreseeOne B 109 [some (.ref 0), some (.int x1), some (.int x2), some (.ref (80 + 2 * (x1 + 1).toNatClampNeg)), some (.ref (73 + (x1 + 1).toNatClampNeg)), some (.int (s 67 x2.toNatClampNeg)), some (.int (s (73 + (x1 + 1).toNatClampNeg) x2.toNatClampNeg)), some (.ref 79)] (v.toList ++ []) t))
    (k8 : ¬ y0 = 0 → ¬ (s (73 + (x1 + 1).toNatClampNeg) x2.toNatClampNeg) < 0 → (s 67 x2.toNatClampNeg) = 2 → ¬ (s (73 + (x1 + 1).toNatClampNeg) x2.toNatClampNeg) ≤ (s (80 + 2 * (x1 + 1).toNatClampNeg) 0) → B none s)
    (k9 : ¬ y0 = 0 → ¬ (s (73 + (x1 + 1).toNatClampNeg) x2.toNatClampNeg) < 0 → (s 67 x2.toNatClampNeg) = 2 → (s (73 + (x1 + 1).toNatClampNeg) x2.toNatClampNeg) ≤ (s (80 + 2 * (x1 + 1).toNatClampNeg) 0) → ¬ (s (80 + 2 * (x1 + 1).toNatClampNeg) 0) < 10 → B none s)
    (k10 : ¬ y0 = 0 → ¬ (s (73 + (x1 + 1).toNatClampNeg) x2.toNatClampNeg) < 0 → (s 67 x2.toNatClampNeg) = 2 → (s (73 + (x1 + 1).toNatClampNeg) x2.toNatClampNeg) ≤ (s (80 + 2 * (x1 + 1).toNatClampNeg) 0) → (s (80 + 2 * (x1 + 1).toNatClampNeg) 0) < 10 → q_P G (d + 1) 93 [.ref 0, .ref 79, .ref (80 + 2 * (x1 + 1).toNatClampNeg), .ref 66, .int x2, .int (s (73 + (x1 + 1).toNatClampNeg) x2.toNatClampNeg)] s (fun v t => q_W G (d + 1) jm_C_foreseeOne B 109 [some (.ref 0), some (.int x1), some (.int x2), some (.ref (80 + 2 * (x1 + 1).toNatClampNeg)), some (.ref (73 + (x1 + 1).toNatClampNeg)), some (.int (s 67 x2.toNatClampNeg)), some (.int (s (73 + (x1 + 1).toNatClampNeg) x2.toNatClampNeg)), some (.ref 79)] (v.toList ++ []) t))
    (k11 : y0 = 0 → B none s) :
    q_W G (d + 1) jm_C_foreseeOne B 22 [some (.ref 0), some (.int x1), some (.int x2), none, none, none, none, none] [.int y0] s := by
  refine q_if_ne (pc' := 25) ja_C_foreseeOne_22 rfl ?_ ?_
  · intro h1
    refine q_aload_n (pc' := 27) ja_C_foreseeOne_26 rfl rfl ?_
    refine q_getf (pc' := 30) (v := .ref 65) ja_C_foreseeOne_27 rfl (by decide) ⟨rfl, by decide⟩ rfl ?_
    refine q_getf (pc' := 33) (v := .ref 71) ja_C_foreseeOne_30 rfl (by decide) ⟨rfl, by decide⟩ rfl ?_
    refine q_iload_n (pc' := 34) ja_C_foreseeOne_33 rfl rfl ?_
    refine q_iconst (pc' := 35) ja_C_foreseeOne_34 rfl 1 (by decide) ?_
    refine q_iadd (pc' := 36) ja_C_foreseeOne_35 rfl ?_
    refine q_aald (pc' := 37) (v := .ref (80 + 2 * (x1 + 1).toNatClampNeg)) ja_C_foreseeOne_36 rfl (by decide) (kd := 18) (l := 6) rfl (by decide) (k1 h1) (f_A71 (f_in (k1 h1))) ?_
    refine q_astore_n (pc' := 38) (ls' := [some (.ref 0), some (.int x1), some (.int x2), some (.ref (80 + 2 * (x1 + 1).toNatClampNeg)), none, none, none, none]) ja_C_foreseeOne_37 rfl ⟨Nat.le_of_ble_eq_true rfl, rfl⟩ rfl ?_
    refine q_aload_n (pc' := 39) ja_C_foreseeOne_38 rfl rfl ?_
    refine q_getf (pc' := 42) (v := .ref 65) ja_C_foreseeOne_39 rfl (by decide) ⟨rfl, by decide⟩ rfl ?_
    refine q_getf (pc' := 45) (v := .ref 72) ja_C_foreseeOne_42 rfl (by decide) ⟨rfl, by decide⟩ rfl ?_
    refine q_iload_n (pc' := 46) ja_C_foreseeOne_45 rfl rfl ?_
    refine q_iconst (pc' := 47) ja_C_foreseeOne_46 rfl 1 (by decide) ?_
    refine q_iadd (pc' := 48) ja_C_foreseeOne_47 rfl ?_
    refine q_aald (pc' := 49) (v := .ref (73 + (x1 + 1).toNatClampNeg)) ja_C_foreseeOne_48 rfl (by decide) (kd := 15) (l := 6) rfl (by decide) (k2 h1) (f_A72 (f_in (k2 h1))) ?_
    refine q_astore (pc' := 51) (ls' := [some (.ref 0), some (.int x1), some (.int x2), some (.ref (80 + 2 * (x1 + 1).toNatClampNeg)), some (.ref (73 + (x1 + 1).toNatClampNeg)), none, none, none]) ja_C_foreseeOne_49 rfl ⟨Nat.le_of_ble_eq_true rfl, rfl⟩ rfl ?_
    refine q_aload_n (pc' := 52) ja_C_foreseeOne_51 rfl rfl ?_
    refine q_getf (pc' := 55) (v := .ref 65) ja_C_foreseeOne_52 rfl (by decide) ⟨rfl, by decide⟩ rfl ?_
    refine q_getf (pc' := 58) (v := .ref 66) ja_C_foreseeOne_55 rfl (by decide) ⟨rfl, by decide⟩ rfl ?_
    refine q_getf (pc' := 61) (v := .ref 67) ja_C_foreseeOne_58 rfl (by decide) ⟨rfl, by decide⟩ rfl ?_
    refine q_iload_n (pc' := 62) ja_C_foreseeOne_61 rfl rfl ?_
    refine q_iald (pc' := 63) (v := .int (s 67 x2.toNatClampNeg)) ja_C_foreseeOne_62 rfl (by decide) (l := 5) rfl (k3 h1) rfl ?_
    refine q_istore (pc' := 65) (ls' := [some (.ref 0), some (.int x1), some (.int x2), some (.ref (80 + 2 * (x1 + 1).toNatClampNeg)), some (.ref (73 + (x1 + 1).toNatClampNeg)), some (.int (s 67 x2.toNatClampNeg)), none, none]) ja_C_foreseeOne_63 rfl ⟨Nat.le_of_ble_eq_true rfl, rfl⟩ rfl ?_
    refine q_aload (pc' := 67) ja_C_foreseeOne_65 rfl rfl ?_
    refine q_iload_n (pc' := 68) ja_C_foreseeOne_67 rfl rfl ?_
    refine q_iald (pc' := 69) (v := .int (s (73 + (x1 + 1).toNatClampNeg) x2.toNatClampNeg)) ja_C_foreseeOne_68 rfl (f_a_c (f_m72 (f_in (k2 h1)))) (l := 5) (f_a_k (f_m72 (f_in (k2 h1)))) (k4 h1) (f_i (f_a_k (f_m72 (f_in (k2 h1)))) rfl) ?_
    refine q_istore (pc' := 71) (ls' := [some (.ref 0), some (.int x1), some (.int x2), some (.ref (80 + 2 * (x1 + 1).toNatClampNeg)), some (.ref (73 + (x1 + 1).toNatClampNeg)), some (.int (s 67 x2.toNatClampNeg)), some (.int (s (73 + (x1 + 1).toNatClampNeg) x2.toNatClampNeg)), none]) ja_C_foreseeOne_69 rfl ⟨Nat.le_of_ble_eq_true rfl, rfl⟩ rfl ?_
    refine q_aload_n (pc' := 72) ja_C_foreseeOne_71 rfl rfl ?_
    refine q_iload (pc' := 74) ja_C_foreseeOne_72 rfl rfl ?_
    refine q_iload (pc' := 76) ja_C_foreseeOne_74 rfl rfl ?_
    refine q_virt (pc' := 79) (c := (80 + 2 * (x1 + 1).toNatClampNeg)) (as := [.int (s 67 x2.toNatClampNeg), .int (s (73 + (x1 + 1).toNatClampNeg) x2.toNatClampNeg)]) (r := []) ja_C_foreseeOne_76 rfl rfl rfl (f_8_c (f_m71 (f_in (k1 h1)))) ⟨by rw [f_8_k (f_m71 (f_in (k1 h1)))], by decide⟩ ?_
    refine q_in (M := jm_Sections_canChange) rfl (Nat.le_of_ble_eq_true rfl) (ls := [some (.ref (80 + 2 * (x1 + 1).toNatClampNeg)), some (.int (s 67 x2.toNatClampNeg)), some (.int (s (73 + (x1 + 1).toNatClampNeg) x2.toNatClampNeg))]) rfl ?_
    refine q_iload_n (pc' := 1) ja_Sections_canChange_0 rfl rfl ?_
    refine q_if_lt (pc' := 4) ja_Sections_canChange_1 rfl ?_ ?_
    · intro h2
      refine q_iconst (pc' := 45) ja_Sections_canChange_44 rfl 0 (by decide) ?_
      refine q_iret ja_Sections_canChange_45 rfl (by decide) ?_
      show q_W _ _ _ _ 79 [some (.ref 0), some (.int x1), some (.int x2), some (.ref (80 + 2 * (x1 + 1).toNatClampNeg)), some (.ref (73 + (x1 + 1).toNatClampNeg)), some (.int (s 67 x2.toNatClampNeg)), some (.int (s (73 + (x1 + 1).toNatClampNeg) x2.toNatClampNeg)), none] [.int 0] s
      refine q_if_ne (pc' := 82) ja_C_foreseeOne_79 rfl (fun h => absurd ((by decide : (0 : Int32) = 0)) h) (fun _ => ?_)
      exact q_vret ja_C_foreseeOne_82 rfl (k5 h1 h2)
    · intro h3
      refine q_iload_n (pc' := 5) ja_Sections_canChange_4 rfl rfl ?_
      refine q_iconst (pc' := 6) ja_Sections_canChange_5 rfl 2 (by decide) ?_
      refine q_ic_ne (pc' := 9) ja_Sections_canChange_6 rfl ?_ ?_
      · intro h4
        refine q_iload_n (pc' := 33) ja_Sections_canChange_32 rfl rfl ?_
        refine q_aload_n (pc' := 34) ja_Sections_canChange_33 rfl rfl ?_
        refine q_getf (pc' := 37) (v := .int (s (80 + 2 * (x1 + 1).toNatClampNeg) 0)) ja_Sections_canChange_34 rfl (f_8_c (f_m71 (f_in (k1 h1)))) ⟨by rw [f_8_k (f_m71 (f_in (k1 h1)))], by decide⟩ (f_i (f_8_k (f_m71 (f_in (k1 h1)))) rfl) ?_
        refine q_ic_ge (pc' := 40) ja_Sections_canChange_37 rfl ?_ ?_
        · intro h5
          refine q_iconst (pc' := 45) ja_Sections_canChange_44 rfl 0 (by decide) ?_
          refine q_iret ja_Sections_canChange_45 rfl (by decide) ?_
          show q_W _ _ _ _ 79 [some (.ref 0), some (.int x1), some (.int x2), some (.ref (80 + 2 * (x1 + 1).toNatClampNeg)), some (.ref (73 + (x1 + 1).toNatClampNeg)), some (.int (s 67 x2.toNatClampNeg)), some (.int (s (73 + (x1 + 1).toNatClampNeg) x2.toNatClampNeg)), none] [.int 0] s
          refine q_if_ne (pc' := 82) ja_C_foreseeOne_79 rfl (fun h => absurd ((by decide : (0 : Int32) = 0)) h) (fun _ => ?_)
          exact q_vret ja_C_foreseeOne_82 rfl (k6 h1 h3 h4 h5)
        · intro h6
          refine q_iconst (pc' := 41) ja_Sections_canChange_40 rfl 1 (by decide) ?_
          refine q_goto ja_Sections_canChange_41 ?_
          refine q_iret ja_Sections_canChange_45 rfl (by decide) ?_
          show q_W _ _ _ _ 79 [some (.ref 0), some (.int x1), some (.int x2), some (.ref (80 + 2 * (x1 + 1).toNatClampNeg)), some (.ref (73 + (x1 + 1).toNatClampNeg)), some (.int (s 67 x2.toNatClampNeg)), some (.int (s (73 + (x1 + 1).toNatClampNeg) x2.toNatClampNeg)), none] [.int 1] s
          refine q_if_ne (pc' := 82) ja_C_foreseeOne_79 rfl (fun _ => ?_) (fun h => absurd h ((by decide : ¬ (1 : Int32) = 0)))
          refine q_aload_n (pc' := 84) ja_C_foreseeOne_83 rfl rfl ?_
          refine q_getf (pc' := 87) (v := .ref 65) ja_C_foreseeOne_84 rfl (by decide) ⟨rfl, by decide⟩ rfl ?_
          refine q_getf (pc' := 90) (v := .ref 79) ja_C_foreseeOne_87 rfl (by decide) ⟨rfl, by decide⟩ rfl ?_
          refine q_astore (pc' := 92) (ls' := [some (.ref 0), some (.int x1), some (.int x2), some (.ref (80 + 2 * (x1 + 1).toNatClampNeg)), some (.ref (73 + (x1 + 1).toNatClampNeg)), some (.int (s 67 x2.toNatClampNeg)), some (.int (s (73 + (x1 + 1).toNatClampNeg) x2.toNatClampNeg)), some (.ref 79)]) ja_C_foreseeOne_90 rfl ⟨Nat.le_of_ble_eq_true rfl, rfl⟩ rfl ?_
          refine q_aload_n (pc' := 93) ja_C_foreseeOne_92 rfl rfl ?_
          refine q_aload (pc' := 95) ja_C_foreseeOne_93 rfl rfl ?_
          refine q_aload_n (pc' := 96) ja_C_foreseeOne_95 rfl rfl ?_
          refine q_aload_n (pc' := 97) ja_C_foreseeOne_96 rfl rfl ?_
          refine q_getf (pc' := 100) (v := .ref 65) ja_C_foreseeOne_97 rfl (by decide) ⟨rfl, by decide⟩ rfl ?_
          refine q_getf (pc' := 103) (v := .ref 66) ja_C_foreseeOne_100 rfl (by decide) ⟨rfl, by decide⟩ rfl ?_
          refine q_iload_n (pc' := 104) ja_C_foreseeOne_103 rfl rfl ?_
          refine q_iload (pc' := 106) ja_C_foreseeOne_104 rfl rfl ?_
          refine q_virt (pc' := 109) (c := 0) (as := [.ref 79, .ref (80 + 2 * (x1 + 1).toNatClampNeg), .ref 66, .int x2, .int (s (73 + (x1 + 1).toNatClampNeg) x2.toNatClampNeg)]) (r := []) ja_C_foreseeOne_106 rfl rfl rfl (by decide) ⟨rfl, by decide⟩ ?_
          exact (k7 h1 h3 h4 h6)
      · intro h7
        refine q_iload_n (pc' := 10) ja_Sections_canChange_9 rfl rfl ?_
        refine q_aload_n (pc' := 11) ja_Sections_canChange_10 rfl rfl ?_
        refine q_getf (pc' := 14) (v := .int (s (80 + 2 * (x1 + 1).toNatClampNeg) 0)) ja_Sections_canChange_11 rfl (f_8_c (f_m71 (f_in (k1 h1)))) ⟨by rw [f_8_k (f_m71 (f_in (k1 h1)))], by decide⟩ (f_i (f_8_k (f_m71 (f_in (k1 h1)))) rfl) ?_
        refine q_ic_gt (pc' := 17) ja_Sections_canChange_14 rfl ?_ ?_
        · intro h8
          refine q_iconst (pc' := 45) ja_Sections_canChange_44 rfl 0 (by decide) ?_
          refine q_iret ja_Sections_canChange_45 rfl (by decide) ?_
          show q_W _ _ _ _ 79 [some (.ref 0), some (.int x1), some (.int x2), some (.ref (80 + 2 * (x1 + 1).toNatClampNeg)), some (.ref (73 + (x1 + 1).toNatClampNeg)), some (.int (s 67 x2.toNatClampNeg)), some (.int (s (73 + (x1 + 1).toNatClampNeg) x2.toNatClampNeg)), none] [.int 0] s
          refine q_if_ne (pc' := 82) ja_C_foreseeOne_79 rfl (fun h => absurd ((by decide : (0 : Int32) = 0)) h) (fun _ => ?_)
          exact q_vret ja_C_foreseeOne_82 rfl (k8 h1 h3 h7 h8)
        · intro h9
          refine q_aload_n (pc' := 18) ja_Sections_canChange_17 rfl rfl ?_
          refine q_getf (pc' := 21) (v := .int (s (80 + 2 * (x1 + 1).toNatClampNeg) 0)) ja_Sections_canChange_18 rfl (f_8_c (f_m71 (f_in (k1 h1)))) ⟨by rw [f_8_k (f_m71 (f_in (k1 h1)))], by decide⟩ (f_i (f_8_k (f_m71 (f_in (k1 h1)))) rfl) ?_
          refine q_aload_n (pc' := 22) ja_Sections_canChange_21 rfl rfl ?_
          refine q_getf (pc' := 25) (v := .ref ((80 + 2 * (x1 + 1).toNatClampNeg) + 1)) ja_Sections_canChange_22 rfl (f_8_c (f_m71 (f_in (k1 h1)))) ⟨by rw [f_8_k (f_m71 (f_in (k1 h1)))], by decide⟩ (f_8_g1 (f_m71 (f_in (k1 h1)))) ?_
          refine q_alen (pc' := 26) ja_Sections_canChange_25 rfl (f_a_c (f_8_s1 (f_m71 (f_in (k1 h1))))) (kd := 13) (l := 10) (f_a_k (f_8_s1 (f_m71 (f_in (k1 h1))))) (by decide) (v := 10) (by decide) ?_
          refine q_ic_ge (pc' := 29) ja_Sections_canChange_26 rfl ?_ ?_
          · intro h10
            refine q_iconst (pc' := 45) ja_Sections_canChange_44 rfl 0 (by decide) ?_
            refine q_iret ja_Sections_canChange_45 rfl (by decide) ?_
            show q_W _ _ _ _ 79 [some (.ref 0), some (.int x1), some (.int x2), some (.ref (80 + 2 * (x1 + 1).toNatClampNeg)), some (.ref (73 + (x1 + 1).toNatClampNeg)), some (.int (s 67 x2.toNatClampNeg)), some (.int (s (73 + (x1 + 1).toNatClampNeg) x2.toNatClampNeg)), none] [.int 0] s
            refine q_if_ne (pc' := 82) ja_C_foreseeOne_79 rfl (fun h => absurd ((by decide : (0 : Int32) = 0)) h) (fun _ => ?_)
            exact q_vret ja_C_foreseeOne_82 rfl (k9 h1 h3 h7 h9 h10)
          · intro h11
            refine q_goto ja_Sections_canChange_29 ?_
            refine q_iconst (pc' := 41) ja_Sections_canChange_40 rfl 1 (by decide) ?_
            refine q_goto ja_Sections_canChange_41 ?_
            refine q_iret ja_Sections_canChange_45 rfl (by decide) ?_
            show q_W _ _ _ _ 79 [some (.ref 0), some (.int x1), some (.int x2), some (.ref (80 + 2 * (x1 + 1).toNatClampNeg)), some (.ref (73 + (x1 + 1).toNatClampNeg)), some (.int (s 67 x2.toNatClampNeg)), some (.int (s (73 + (x1 + 1).toNatClampNeg) x2.toNatClampNeg)), none] [.int 1] s
            refine q_if_ne (pc' := 82) ja_C_foreseeOne_79 rfl (fun _ => ?_) (fun h => absurd h ((by decide : ¬ (1 : Int32) = 0)))
            refine q_aload_n (pc' := 84) ja_C_foreseeOne_83 rfl rfl ?_
            refine q_getf (pc' := 87) (v := .ref 65) ja_C_foreseeOne_84 rfl (by decide) ⟨rfl, by decide⟩ rfl ?_
            refine q_getf (pc' := 90) (v := .ref 79) ja_C_foreseeOne_87 rfl (by decide) ⟨rfl, by decide⟩ rfl ?_
            refine q_astore (pc' := 92) (ls' := [some (.ref 0), some (.int x1), some (.int x2), some (.ref (80 + 2 * (x1 + 1).toNatClampNeg)), some (.ref (73 + (x1 + 1).toNatClampNeg)), some (.int (s 67 x2.toNatClampNeg)), some (.int (s (73 + (x1 + 1).toNatClampNeg) x2.toNatClampNeg)), some (.ref 79)]) ja_C_foreseeOne_90 rfl ⟨Nat.le_of_ble_eq_true rfl, rfl⟩ rfl ?_
            refine q_aload_n (pc' := 93) ja_C_foreseeOne_92 rfl rfl ?_
            refine q_aload (pc' := 95) ja_C_foreseeOne_93 rfl rfl ?_
            refine q_aload_n (pc' := 96) ja_C_foreseeOne_95 rfl rfl ?_
            refine q_aload_n (pc' := 97) ja_C_foreseeOne_96 rfl rfl ?_
            refine q_getf (pc' := 100) (v := .ref 65) ja_C_foreseeOne_97 rfl (by decide) ⟨rfl, by decide⟩ rfl ?_
            refine q_getf (pc' := 103) (v := .ref 66) ja_C_foreseeOne_100 rfl (by decide) ⟨rfl, by decide⟩ rfl ?_
            refine q_iload_n (pc' := 104) ja_C_foreseeOne_103 rfl rfl ?_
            refine q_iload (pc' := 106) ja_C_foreseeOne_104 rfl rfl ?_
            refine q_virt (pc' := 109) (c := 0) (as := [.ref 79, .ref (80 + 2 * (x1 + 1).toNatClampNeg), .ref 66, .int x2, .int (s (73 + (x1 + 1).toNatClampNeg) x2.toNatClampNeg)]) (r := []) ja_C_foreseeOne_106 rfl rfl rfl (by decide) ⟨rfl, by decide⟩ ?_
            exact (k10 h1 h3 h7 h9 h11)
  · intro h12
    exact q_vret ja_C_foreseeOne_25 rfl (k11 h12)
set_option maxRecDepth 20000 in
theorem t_C_foreseeOne_109 {G : jv_X} {d : Nat} {B : Option Value → jg_H → Prop} {s : jg_H} (x1 : Int32) (x2 : Int32) {x3 : Nat} (hx3 : f_8 x3) {x4 : Nat} (hx4 : f_a x4 5) (x5 : Int32) (x6 : Int32)
    (k1 : ∀ s1 : jg_H, s1 = jg_up s 120 0 x5 → ∀ s2 : jg_H, s2 = jg_up s1 120 1 0 → ∀ s3 : jg_H, s3 = jg_up s2 120 3 0 → ∀ s4 : jg_H, s4 = jg_up s3 120 6 (s 79 0) → ∀ s5 : jg_H, s5 = jg_up s4 120 7 (s 79 1) → q_P G (d + 1) 75 [.ref 0, .int (s5 0 12), .int 2] s5 (fun v t => q_W G (d + 1) jm_C_foreseeOne B 139 [some (.ref 0), some (.int x1), some (.int x2), some (.ref x3), some (.ref x4), some (.int x5), some (.int x6), some (.ref 79)] (v.toList ++ []) t)) :
    q_W G (d + 1) jm_C_foreseeOne B 109 [some (.ref 0), some (.int x1), some (.int x2), some (.ref x3), some (.ref x4), some (.int x5), some (.int x6), some (.ref 79)] [] s := by
  refine q_aload_n (pc' := 110) ja_C_foreseeOne_109 rfl rfl ?_
  refine q_getf (pc' := 113) (v := .ref 119) ja_C_foreseeOne_110 rfl (by decide) ⟨rfl, by decide⟩ rfl ?_
  refine q_iload (pc' := 115) ja_C_foreseeOne_113 rfl rfl ?_
  refine q_iconst (pc' := 116) ja_C_foreseeOne_115 rfl 0 (by decide) ?_
  refine q_iconst (pc' := 117) ja_C_foreseeOne_116 rfl 0 (by decide) ?_
  refine q_aload (pc' := 119) ja_C_foreseeOne_117 rfl rfl ?_
  refine q_getf (pc' := 122) (v := .int (s 79 0)) ja_C_foreseeOne_119 rfl (by decide) ⟨rfl, by decide⟩ rfl ?_
  refine q_aload (pc' := 124) ja_C_foreseeOne_122 rfl rfl ?_
  refine q_getf (pc' := 127) (v := .int (s 79 1)) ja_C_foreseeOne_124 rfl (by decide) ⟨rfl, by decide⟩ rfl ?_
  refine q_virt (pc' := 130) (c := 119) (as := [.int x5, .int 0, .int 0, .int (s 79 0), .int (s 79 1)]) (r := []) ja_C_foreseeOne_127 rfl rfl rfl (by decide) ⟨rfl, by decide⟩ ?_
  refine q_in (M := jm_Machine_sets) rfl (Nat.le_of_ble_eq_true rfl) (ls := [some (.ref 119), some (.int x5), some (.int 0), some (.int 0), some (.int (s 79 0)), some (.int (s 79 1))]) rfl ?_
  refine q_aload_n (pc' := 1) ja_Machine_sets_0 rfl rfl ?_
  refine q_getf (pc' := 4) (v := .ref 120) ja_Machine_sets_1 rfl (by decide) ⟨rfl, by decide⟩ rfl ?_
  refine q_iconst (pc' := 5) ja_Machine_sets_4 rfl 0 (by decide) ?_
  refine q_iload_n (pc' := 6) ja_Machine_sets_5 rfl rfl ?_
  refine q_iast (pc' := 7) ja_Machine_sets_6 rfl (by decide) (l := 8) rfl (by decide) ?_
  intro s1 e1
  refine q_aload_n (pc' := 8) ja_Machine_sets_7 rfl rfl ?_
  refine q_getf (pc' := 11) (v := .ref 120) ja_Machine_sets_8 rfl (by decide) ⟨rfl, by decide⟩ rfl ?_
  refine q_iconst (pc' := 12) ja_Machine_sets_11 rfl 1 (by decide) ?_
  refine q_iload_n (pc' := 13) ja_Machine_sets_12 rfl rfl ?_
  refine q_iast (pc' := 14) ja_Machine_sets_13 rfl (by decide) (l := 8) rfl (by decide) ?_
  intro s2 e2
  refine q_aload_n (pc' := 15) ja_Machine_sets_14 rfl rfl ?_
  refine q_getf (pc' := 18) (v := .ref 120) ja_Machine_sets_15 rfl (by decide) ⟨rfl, by decide⟩ rfl ?_
  refine q_iconst (pc' := 19) ja_Machine_sets_18 rfl 3 (by decide) ?_
  refine q_iload_n (pc' := 20) ja_Machine_sets_19 rfl rfl ?_
  refine q_iast (pc' := 21) ja_Machine_sets_20 rfl (by decide) (l := 8) rfl (by decide) ?_
  intro s3 e3
  refine q_aload_n (pc' := 22) ja_Machine_sets_21 rfl rfl ?_
  refine q_getf (pc' := 25) (v := .ref 120) ja_Machine_sets_22 rfl (by decide) ⟨rfl, by decide⟩ rfl ?_
  refine q_bipush (pc' := 27) ja_Machine_sets_25 rfl 6 (by decide) ?_
  refine q_iload (pc' := 29) ja_Machine_sets_27 rfl rfl ?_
  refine q_iast (pc' := 30) ja_Machine_sets_29 rfl (by decide) (l := 8) rfl (by decide) ?_
  intro s4 e4
  refine q_aload_n (pc' := 31) ja_Machine_sets_30 rfl rfl ?_
  refine q_getf (pc' := 34) (v := .ref 120) ja_Machine_sets_31 rfl (by decide) ⟨rfl, by decide⟩ rfl ?_
  refine q_bipush (pc' := 36) ja_Machine_sets_34 rfl 7 (by decide) ?_
  refine q_iload (pc' := 38) ja_Machine_sets_36 rfl rfl ?_
  refine q_iast (pc' := 39) ja_Machine_sets_38 rfl (by decide) (l := 8) rfl (by decide) ?_
  intro s5 e5
  refine q_vret ja_Machine_sets_39 rfl ?_
  show q_W _ _ _ _ 130 [some (.ref 0), some (.int x1), some (.int x2), some (.ref x3), some (.ref x4), some (.int x5), some (.int x6), some (.ref 79)] [] s5
  refine q_aload_n (pc' := 131) ja_C_foreseeOne_130 rfl rfl ?_
  refine q_aload_n (pc' := 132) ja_C_foreseeOne_131 rfl rfl ?_
  refine q_getf (pc' := 135) (v := .int (s5 0 12)) ja_C_foreseeOne_132 rfl (by decide) ⟨rfl, by decide⟩ rfl ?_
  refine q_iconst (pc' := 136) ja_C_foreseeOne_135 rfl 2 (by decide) ?_
  refine q_virt (pc' := 139) (c := 0) (as := [.int (s5 0 12), .int 2]) (r := []) ja_C_foreseeOne_136 rfl rfl rfl (by decide) ⟨rfl, by decide⟩ ?_
  exact (k1 s1 e1 s2 e2 s3 e3 s4 e4 s5 e5)
set_option maxRecDepth 20000 in
theorem t_C_foreseeOne_139 {G : jv_X} {d : Nat} {B : Option Value → jg_H → Prop} {s : jg_H} (x1 : Int32) (x2 : Int32) {x3 : Nat} (hx3 : f_8 x3) {x4 : Nat} (hx4 : f_a x4 5) (x5 : Int32) (x6 : Int32) (y0 : Int32)
    (k1 : ¬ y0 = 0 → jv_in x2 5 = true)
    (k2 : ¬ y0 = 0 → q_P G (d + 1) 54 [.ref x3, .int x5, .int x6, .int (s 70 x2.toNatClampNeg)] s (fun v t => q_W G (d + 1) jm_C_foreseeOne B 163 [some (.ref 0), some (.int x1), some (.int x2), some (.ref x3), some (.ref x4), some (.int x5), some (.int x6), some (.ref 79)] (v.toList ++ []) t))
    (k3 : y0 = 0 → B none s) :
    q_W G (d + 1) jm_C_foreseeOne B 139 [some (.ref 0), some (.int x1), some (.int x2), some (.ref x3), some (.ref x4), some (.int x5), some (.int x6), some (.ref 79)] [.int y0] s := by
  refine q_if_ne (pc' := 142) ja_C_foreseeOne_139 rfl ?_ ?_
  · intro h1
    refine q_aload_n (pc' := 144) ja_C_foreseeOne_143 rfl rfl ?_
    refine q_iload (pc' := 146) ja_C_foreseeOne_144 rfl rfl ?_
    refine q_iload (pc' := 148) ja_C_foreseeOne_146 rfl rfl ?_
    refine q_aload_n (pc' := 149) ja_C_foreseeOne_148 rfl rfl ?_
    refine q_getf (pc' := 152) (v := .ref 65) ja_C_foreseeOne_149 rfl (by decide) ⟨rfl, by decide⟩ rfl ?_
    refine q_getf (pc' := 155) (v := .ref 66) ja_C_foreseeOne_152 rfl (by decide) ⟨rfl, by decide⟩ rfl ?_
    refine q_getf (pc' := 158) (v := .ref 70) ja_C_foreseeOne_155 rfl (by decide) ⟨rfl, by decide⟩ rfl ?_
    refine q_iload_n (pc' := 159) ja_C_foreseeOne_158 rfl rfl ?_
    refine q_iald (pc' := 160) (v := .int (s 70 x2.toNatClampNeg)) ja_C_foreseeOne_159 rfl (by decide) (l := 5) rfl (k1 h1) rfl ?_
    refine q_virt (pc' := 163) (c := x3) (as := [.int x5, .int x6, .int (s 70 x2.toNatClampNeg)]) (r := []) ja_C_foreseeOne_160 rfl rfl rfl (f_8_c hx3) ⟨by rw [f_8_k hx3], by decide⟩ ?_
    exact (k2 h1)
  · intro h2
    exact q_vret ja_C_foreseeOne_142 rfl (k3 h2)
set_option maxRecDepth 20000 in
theorem t_C_foreseeOne_163 {G : jv_X} {d : Nat} {B : Option Value → jg_H → Prop} {s : jg_H} (x1 : Int32) (x2 : Int32) {x3 : Nat} (hx3 : f_8 x3) {x4 : Nat} (hx4 : f_a x4 5) (x5 : Int32) (x6 : Int32) (y0 : Int32)
    (k1 : q_P G (d + 1) 100 [.ref x4, .int (s 66 0), .int x5, .int x6] s (fun v t => q_W G (d + 1) jm_C_foreseeOne B 183 [some (.ref 0), some (.int x1), some (.int x2), some (.ref x3), some (.ref x4), some (.int x5), some (.int x6), some (.ref 79)] (v.toList ++ []) t)) :
    q_W G (d + 1) jm_C_foreseeOne B 163 [some (.ref 0), some (.int x1), some (.int x2), some (.ref x3), some (.ref x4), some (.int x5), some (.int x6), some (.ref 79)] [.int y0] s := by
  refine q_pop (pc' := 164) ja_C_foreseeOne_163 rfl rfl ?_
  refine q_aload (pc' := 166) ja_C_foreseeOne_164 rfl rfl ?_
  refine q_aload_n (pc' := 167) ja_C_foreseeOne_166 rfl rfl ?_
  refine q_getf (pc' := 170) (v := .ref 65) ja_C_foreseeOne_167 rfl (by decide) ⟨rfl, by decide⟩ rfl ?_
  refine q_getf (pc' := 173) (v := .ref 66) ja_C_foreseeOne_170 rfl (by decide) ⟨rfl, by decide⟩ rfl ?_
  refine q_getf (pc' := 176) (v := .int (s 66 0)) ja_C_foreseeOne_173 rfl (by decide) ⟨rfl, by decide⟩ rfl ?_
  refine q_iload (pc' := 178) ja_C_foreseeOne_176 rfl rfl ?_
  refine q_iload (pc' := 180) ja_C_foreseeOne_178 rfl rfl ?_
  refine q_stat (pc' := 183) (as := [.ref x4, .int (s 66 0), .int x5, .int x6]) (r := []) ja_C_foreseeOne_180 rfl (by decide) rfl rfl ?_
  exact k1
set_option maxRecDepth 20000 in
theorem t_C_foreseeOne_183 {G : jv_X} {d : Nat} {B : Option Value → jg_H → Prop} {s : jg_H} (x1 : Int32) (x2 : Int32) {x3 : Nat} (hx3 : f_8 x3) {x4 : Nat} (hx4 : f_a x4 5) (x5 : Int32) (x6 : Int32)
    (k1 : B none s) :
    q_W G (d + 1) jm_C_foreseeOne B 183 [some (.ref 0), some (.int x1), some (.int x2), some (.ref x3), some (.ref x4), some (.int x5), some (.int x6), some (.ref 79)] [] s := by
  exact q_vret ja_C_foreseeOne_183 rfl k1
set_option maxRecDepth 20000 in
theorem t_C_hindrance {G : jv_X} {d : Nat} {B : Option Value → jg_H → Prop} {s : jg_H} (a1 : Int32) (a2 : Int32) (a3 : Int32) (a4 : Int32)
    (k1 : a1 < 0 → B (some (.int (-2))) s)
    (k2 : ¬ a1 < 0 → ¬ a1 ≤ 6 → B (some (.int (-2))) s)
    (k3 : ¬ a1 < 0 → a1 ≤ 6 → a2 < 0 → B (some (.int (-2))) s)
    (k4 : ¬ a1 < 0 → a1 ≤ 6 → ¬ a2 < 0 → ¬ a2 < (s 0 1) → B (some (.int (-2))) s)
    (k5 : ¬ a1 < 0 → a1 ≤ 6 → ¬ a2 < 0 → a2 < (s 0 1) → ¬ a2 < 15 → B (some (.int (-2))) s)
    (k6 : ¬ a1 < 0 → a1 ≤ 6 → ¬ a2 < 0 → a2 < (s 0 1) → a2 < 15 → a1 = 2 → a4 < 1 → B (some (.int (-2))) s)
    (k7 : ¬ a1 < 0 → a1 ≤ 6 → ¬ a2 < 0 → a2 < (s 0 1) → a2 < 15 → a1 = 2 → ¬ a4 < 1 → ¬ a4 ≤ 60 → B (some (.int (-2))) s)
    (k8 : ¬ a1 < 0 → a1 ≤ 6 → ¬ a2 < 0 → a2 < (s 0 1) → a2 < 15 → a1 = 2 → ¬ a4 < 1 → a4 ≤ 60 → ¬ a1 = 6 → q_W G (d + 2) jm_C_hindrance B 51 [some (.ref 0), some (.int a1), some (.int a2), some (.int a3), some (.int a4), none, none] [] s)
    (k9 : ¬ a1 < 0 → a1 ≤ 6 → ¬ a2 < 0 → a2 < (s 0 1) → a2 < 15 → a1 = 2 → ¬ a4 < 1 → a4 ≤ 60 → a1 = 6 → a4 < 0 → B (some (.int (-2))) s)
    (k10 : ¬ a1 < 0 → a1 ≤ 6 → ¬ a2 < 0 → a2 < (s 0 1) → a2 < 15 → a1 = 2 → ¬ a4 < 1 → a4 ≤ 60 → a1 = 6 → ¬ a4 < 0 → ¬ a4 < (s 0 11) → B (some (.int (-2))) s)
    (k11 : ¬ a1 < 0 → a1 ≤ 6 → ¬ a2 < 0 → a2 < (s 0 1) → a2 < 15 → a1 = 2 → ¬ a4 < 1 → a4 ≤ 60 → a1 = 6 → ¬ a4 < 0 → a4 < (s 0 11) → ¬ a4 < 8 → B (some (.int (-2))) s)
    (k12 : ¬ a1 < 0 → a1 ≤ 6 → ¬ a2 < 0 → a2 < (s 0 1) → a2 < 15 → a1 = 2 → ¬ a4 < 1 → a4 ≤ 60 → a1 = 6 → ¬ a4 < 0 → a4 < (s 0 11) → a4 < 8 → q_W G (d + 2) jm_C_hindrance B 51 [some (.ref 0), some (.int a1), some (.int a2), some (.int a3), some (.int a4), none, none] [] s)
    (k13 : ¬ a1 < 0 → a1 ≤ 6 → ¬ a2 < 0 → a2 < (s 0 1) → a2 < 15 → ¬ a1 = 2 → ¬ a1 = 3 → ¬ a1 = 6 → q_W G (d + 2) jm_C_hindrance B 51 [some (.ref 0), some (.int a1), some (.int a2), some (.int a3), some (.int a4), none, none] [] s)
    (k14 : ¬ a1 < 0 → a1 ≤ 6 → ¬ a2 < 0 → a2 < (s 0 1) → a2 < 15 → ¬ a1 = 2 → ¬ a1 = 3 → a1 = 6 → a4 < 0 → B (some (.int (-2))) s)
    (k15 : ¬ a1 < 0 → a1 ≤ 6 → ¬ a2 < 0 → a2 < (s 0 1) → a2 < 15 → ¬ a1 = 2 → ¬ a1 = 3 → a1 = 6 → ¬ a4 < 0 → ¬ a4 < (s 0 11) → B (some (.int (-2))) s)
    (k16 : ¬ a1 < 0 → a1 ≤ 6 → ¬ a2 < 0 → a2 < (s 0 1) → a2 < 15 → ¬ a1 = 2 → ¬ a1 = 3 → a1 = 6 → ¬ a4 < 0 → a4 < (s 0 11) → ¬ a4 < 8 → B (some (.int (-2))) s)
    (k17 : ¬ a1 < 0 → a1 ≤ 6 → ¬ a2 < 0 → a2 < (s 0 1) → a2 < 15 → ¬ a1 = 2 → ¬ a1 = 3 → a1 = 6 → ¬ a4 < 0 → a4 < (s 0 11) → a4 < 8 → q_W G (d + 2) jm_C_hindrance B 51 [some (.ref 0), some (.int a1), some (.int a2), some (.int a3), some (.int a4), none, none] [] s)
    (k18 : ¬ a1 < 0 → a1 ≤ 6 → ¬ a2 < 0 → a2 < (s 0 1) → a2 < 15 → ¬ a1 = 2 → a1 = 3 → a4 < 1 → B (some (.int (-2))) s)
    (k19 : ¬ a1 < 0 → a1 ≤ 6 → ¬ a2 < 0 → a2 < (s 0 1) → a2 < 15 → ¬ a1 = 2 → a1 = 3 → ¬ a4 < 1 → ¬ a4 ≤ 60 → B (some (.int (-2))) s)
    (k20 : ¬ a1 < 0 → a1 ≤ 6 → ¬ a2 < 0 → a2 < (s 0 1) → a2 < 15 → ¬ a1 = 2 → a1 = 3 → ¬ a4 < 1 → a4 ≤ 60 → ¬ a1 = 6 → q_W G (d + 2) jm_C_hindrance B 51 [some (.ref 0), some (.int a1), some (.int a2), some (.int a3), some (.int a4), none, none] [] s)
    (k21 : ¬ a1 < 0 → a1 ≤ 6 → ¬ a2 < 0 → a2 < (s 0 1) → a2 < 15 → ¬ a1 = 2 → a1 = 3 → ¬ a4 < 1 → a4 ≤ 60 → a1 = 6 → a4 < 0 → B (some (.int (-2))) s)
    (k22 : ¬ a1 < 0 → a1 ≤ 6 → ¬ a2 < 0 → a2 < (s 0 1) → a2 < 15 → ¬ a1 = 2 → a1 = 3 → ¬ a4 < 1 → a4 ≤ 60 → a1 = 6 → ¬ a4 < 0 → ¬ a4 < (s 0 11) → B (some (.int (-2))) s)
    (k23 : ¬ a1 < 0 → a1 ≤ 6 → ¬ a2 < 0 → a2 < (s 0 1) → a2 < 15 → ¬ a1 = 2 → a1 = 3 → ¬ a4 < 1 → a4 ≤ 60 → a1 = 6 → ¬ a4 < 0 → a4 < (s 0 11) → ¬ a4 < 8 → B (some (.int (-2))) s)
    (k24 : ¬ a1 < 0 → a1 ≤ 6 → ¬ a2 < 0 → a2 < (s 0 1) → a2 < 15 → ¬ a1 = 2 → a1 = 3 → ¬ a4 < 1 → a4 ≤ 60 → a1 = 6 → ¬ a4 < 0 → a4 < (s 0 11) → a4 < 8 → q_W G (d + 2) jm_C_hindrance B 51 [some (.ref 0), some (.int a1), some (.int a2), some (.int a3), some (.int a4), none, none] [] s) :
    q_P G (d + 3) 81 [.ref 0, .int a1, .int a2, .int a3, .int a4] s B := by
  refine q_in (M := jm_C_hindrance) rfl (Nat.le_of_ble_eq_true rfl) (ls := [some (.ref 0), some (.int a1), some (.int a2), some (.int a3), some (.int a4), none, none]) rfl ?_
  refine q_iload_n (pc' := 1) ja_C_hindrance_0 rfl rfl ?_
  refine q_stat (pc' := 4) (as := [.int a1]) (r := []) ja_C_hindrance_1 rfl (by decide) rfl rfl ?_
  refine q_in (M := jm_C_isKind) rfl (Nat.le_of_ble_eq_true rfl) (ls := [some (.int a1)]) rfl ?_
  refine q_iload_n (pc' := 1) ja_C_isKind_0 rfl rfl ?_
  refine q_if_lt (pc' := 4) ja_C_isKind_1 rfl ?_ ?_
  · intro h1
    refine q_iconst (pc' := 15) ja_C_isKind_14 rfl 0 (by decide) ?_
    refine q_iret ja_C_isKind_15 rfl (by decide) ?_
    show q_W _ _ _ _ 4 [some (.ref 0), some (.int a1), some (.int a2), some (.int a3), some (.int a4), none, none] [.int 0] s
    refine q_if_eq (pc' := 7) ja_C_hindrance_4 rfl (fun _ => ?_) (fun h => absurd ((by decide : (0 : Int32) = 0)) h)
    refine q_bipush (pc' := 17) ja_C_hindrance_15 rfl (-2) (by decide) ?_
    exact q_iret ja_C_hindrance_17 rfl rfl (k1 h1)
  · intro h2
    refine q_iload_n (pc' := 5) ja_C_isKind_4 rfl rfl ?_
    refine q_bipush (pc' := 7) ja_C_isKind_5 rfl 6 (by decide) ?_
    refine q_ic_gt (pc' := 10) ja_C_isKind_7 rfl ?_ ?_
    · intro h3
      refine q_iconst (pc' := 15) ja_C_isKind_14 rfl 0 (by decide) ?_
      refine q_iret ja_C_isKind_15 rfl (by decide) ?_
      show q_W _ _ _ _ 4 [some (.ref 0), some (.int a1), some (.int a2), some (.int a3), some (.int a4), none, none] [.int 0] s
      refine q_if_eq (pc' := 7) ja_C_hindrance_4 rfl (fun _ => ?_) (fun h => absurd ((by decide : (0 : Int32) = 0)) h)
      refine q_bipush (pc' := 17) ja_C_hindrance_15 rfl (-2) (by decide) ?_
      exact q_iret ja_C_hindrance_17 rfl rfl (k2 h2 h3)
    · intro h4
      refine q_iconst (pc' := 11) ja_C_isKind_10 rfl 1 (by decide) ?_
      refine q_goto ja_C_isKind_11 ?_
      refine q_iret ja_C_isKind_15 rfl (by decide) ?_
      show q_W _ _ _ _ 4 [some (.ref 0), some (.int a1), some (.int a2), some (.int a3), some (.int a4), none, none] [.int 1] s
      refine q_if_eq (pc' := 7) ja_C_hindrance_4 rfl (fun h => absurd h ((by decide : ¬ (1 : Int32) = 0))) (fun _ => ?_)
      refine q_aload_n (pc' := 8) ja_C_hindrance_7 rfl rfl ?_
      refine q_iload_n (pc' := 9) ja_C_hindrance_8 rfl rfl ?_
      refine q_virt (pc' := 12) (c := 0) (as := [.int a2]) (r := []) ja_C_hindrance_9 rfl rfl rfl (by decide) ⟨rfl, by decide⟩ ?_
      refine q_in (M := jm_C_isMember) rfl (Nat.le_of_ble_eq_true rfl) (ls := [some (.ref 0), some (.int a2)]) rfl ?_
      refine q_iload_n (pc' := 1) ja_C_isMember_0 rfl rfl ?_
      refine q_if_lt (pc' := 4) ja_C_isMember_1 rfl ?_ ?_
      · intro h5
        refine q_iconst (pc' := 26) ja_C_isMember_25 rfl 0 (by decide) ?_
        refine q_iret ja_C_isMember_26 rfl (by decide) ?_
        show q_W _ _ _ _ 12 [some (.ref 0), some (.int a1), some (.int a2), some (.int a3), some (.int a4), none, none] [.int 0] s
        refine q_if_ne (pc' := 15) ja_C_hindrance_12 rfl (fun h => absurd ((by decide : (0 : Int32) = 0)) h) (fun _ => ?_)
        refine q_bipush (pc' := 17) ja_C_hindrance_15 rfl (-2) (by decide) ?_
        exact q_iret ja_C_hindrance_17 rfl rfl (k3 h2 h4 h5)
      · intro h6
        refine q_iload_n (pc' := 5) ja_C_isMember_4 rfl rfl ?_
        refine q_aload_n (pc' := 6) ja_C_isMember_5 rfl rfl ?_
        refine q_getf (pc' := 9) (v := .int (s 0 1)) ja_C_isMember_6 rfl (by decide) ⟨rfl, by decide⟩ rfl ?_
        refine q_ic_ge (pc' := 12) ja_C_isMember_9 rfl ?_ ?_
        · intro h7
          refine q_iconst (pc' := 26) ja_C_isMember_25 rfl 0 (by decide) ?_
          refine q_iret ja_C_isMember_26 rfl (by decide) ?_
          show q_W _ _ _ _ 12 [some (.ref 0), some (.int a1), some (.int a2), some (.int a3), some (.int a4), none, none] [.int 0] s
          refine q_if_ne (pc' := 15) ja_C_hindrance_12 rfl (fun h => absurd ((by decide : (0 : Int32) = 0)) h) (fun _ => ?_)
          refine q_bipush (pc' := 17) ja_C_hindrance_15 rfl (-2) (by decide) ?_
          exact q_iret ja_C_hindrance_17 rfl rfl (k4 h2 h4 h6 h7)
        · intro h8
          refine q_iload_n (pc' := 13) ja_C_isMember_12 rfl rfl ?_
          refine q_aload_n (pc' := 14) ja_C_isMember_13 rfl rfl ?_
          refine q_getf (pc' := 17) (v := .ref 1) ja_C_isMember_14 rfl (by decide) ⟨rfl, by decide⟩ rfl ?_
          refine q_alen (pc' := 18) ja_C_isMember_17 rfl (by decide) (kd := 16) (l := 15) rfl (by decide) (v := 15) (by decide) ?_
          refine q_ic_ge (pc' := 21) ja_C_isMember_18 rfl ?_ ?_
          · intro h9
            refine q_iconst (pc' := 26) ja_C_isMember_25 rfl 0 (by decide) ?_
            refine q_iret ja_C_isMember_26 rfl (by decide) ?_
            show q_W _ _ _ _ 12 [some (.ref 0), some (.int a1), some (.int a2), some (.int a3), some (.int a4), none, none] [.int 0] s
            refine q_if_ne (pc' := 15) ja_C_hindrance_12 rfl (fun h => absurd ((by decide : (0 : Int32) = 0)) h) (fun _ => ?_)
            refine q_bipush (pc' := 17) ja_C_hindrance_15 rfl (-2) (by decide) ?_
            exact q_iret ja_C_hindrance_17 rfl rfl (k5 h2 h4 h6 h8 h9)
          · intro h10
            refine q_iconst (pc' := 22) ja_C_isMember_21 rfl 1 (by decide) ?_
            refine q_goto ja_C_isMember_22 ?_
            refine q_iret ja_C_isMember_26 rfl (by decide) ?_
            show q_W _ _ _ _ 12 [some (.ref 0), some (.int a1), some (.int a2), some (.int a3), some (.int a4), none, none] [.int 1] s
            refine q_if_ne (pc' := 15) ja_C_hindrance_12 rfl (fun _ => ?_) (fun h => absurd h ((by decide : ¬ (1 : Int32) = 0)))
            refine q_iload_n (pc' := 19) ja_C_hindrance_18 rfl rfl ?_
            refine q_stat (pc' := 22) (as := [.int a1]) (r := []) ja_C_hindrance_19 rfl (by decide) rfl rfl ?_
            refine q_in (M := jm_C_takesWord) rfl (Nat.le_of_ble_eq_true rfl) (ls := [some (.int a1)]) rfl ?_
            refine q_iload_n (pc' := 1) ja_C_takesWord_0 rfl rfl ?_
            refine q_iconst (pc' := 2) ja_C_takesWord_1 rfl 2 (by decide) ?_
            refine q_ic_eq (pc' := 5) ja_C_takesWord_2 rfl ?_ ?_
            · intro h11
              refine q_iconst (pc' := 11) ja_C_takesWord_10 rfl 1 (by decide) ?_
              refine q_goto ja_C_takesWord_11 ?_
              refine q_iret ja_C_takesWord_15 rfl (by decide) ?_
              show q_W _ _ _ _ 22 [some (.ref 0), some (.int a1), some (.int a2), some (.int a3), some (.int a4), none, none] [.int 1] s
              refine q_if_eq (pc' := 25) ja_C_hindrance_22 rfl (fun h => absurd h ((by decide : ¬ (1 : Int32) = 0))) (fun _ => ?_)
              refine q_iload (pc' := 27) ja_C_hindrance_25 rfl rfl ?_
              refine q_stat (pc' := 30) (as := [.int a4]) (r := []) ja_C_hindrance_27 rfl (by decide) rfl rfl ?_
              refine q_in (M := jm_C_isWord) rfl (Nat.le_of_ble_eq_true rfl) (ls := [some (.int a4)]) rfl ?_
              refine q_iload_n (pc' := 1) ja_C_isWord_0 rfl rfl ?_
              refine q_iconst (pc' := 2) ja_C_isWord_1 rfl 1 (by decide) ?_
              refine q_ic_lt (pc' := 5) ja_C_isWord_2 rfl ?_ ?_
              · intro h12
                refine q_iconst (pc' := 16) ja_C_isWord_15 rfl 0 (by decide) ?_
                refine q_iret ja_C_isWord_16 rfl (by decide) ?_
                show q_W _ _ _ _ 30 [some (.ref 0), some (.int a1), some (.int a2), some (.int a3), some (.int a4), none, none] [.int 0] s
                refine q_if_eq (pc' := 33) ja_C_hindrance_30 rfl (fun _ => ?_) (fun h => absurd ((by decide : (0 : Int32) = 0)) h)
                refine q_bipush (pc' := 50) ja_C_hindrance_48 rfl (-2) (by decide) ?_
                exact q_iret ja_C_hindrance_50 rfl rfl (k6 h2 h4 h6 h8 h10 h11 h12)
              · intro h13
                refine q_iload_n (pc' := 6) ja_C_isWord_5 rfl rfl ?_
                refine q_bipush (pc' := 8) ja_C_isWord_6 rfl 60 (by decide) ?_
                refine q_ic_gt (pc' := 11) ja_C_isWord_8 rfl ?_ ?_
                · intro h14
                  refine q_iconst (pc' := 16) ja_C_isWord_15 rfl 0 (by decide) ?_
                  refine q_iret ja_C_isWord_16 rfl (by decide) ?_
                  show q_W _ _ _ _ 30 [some (.ref 0), some (.int a1), some (.int a2), some (.int a3), some (.int a4), none, none] [.int 0] s
                  refine q_if_eq (pc' := 33) ja_C_hindrance_30 rfl (fun _ => ?_) (fun h => absurd ((by decide : (0 : Int32) = 0)) h)
                  refine q_bipush (pc' := 50) ja_C_hindrance_48 rfl (-2) (by decide) ?_
                  exact q_iret ja_C_hindrance_50 rfl rfl (k7 h2 h4 h6 h8 h10 h11 h13 h14)
                · intro h15
                  refine q_iconst (pc' := 12) ja_C_isWord_11 rfl 1 (by decide) ?_
                  refine q_goto ja_C_isWord_12 ?_
                  refine q_iret ja_C_isWord_16 rfl (by decide) ?_
                  show q_W _ _ _ _ 30 [some (.ref 0), some (.int a1), some (.int a2), some (.int a3), some (.int a4), none, none] [.int 1] s
                  refine q_if_eq (pc' := 33) ja_C_hindrance_30 rfl (fun h => absurd h ((by decide : ¬ (1 : Int32) = 0))) (fun _ => ?_)
                  refine q_iload_n (pc' := 34) ja_C_hindrance_33 rfl rfl ?_
                  refine q_bipush (pc' := 36) ja_C_hindrance_34 rfl 6 (by decide) ?_
                  refine q_ic_ne (pc' := 39) ja_C_hindrance_36 rfl ?_ ?_
                  · intro h16
                    exact (k8 h2 h4 h6 h8 h10 h11 h13 h15 h16)
                  · intro h17
                    refine q_aload_n (pc' := 40) ja_C_hindrance_39 rfl rfl ?_
                    refine q_iload (pc' := 42) ja_C_hindrance_40 rfl rfl ?_
                    refine q_virt (pc' := 45) (c := 0) (as := [.int a4]) (r := []) ja_C_hindrance_42 rfl rfl rfl (by decide) ⟨rfl, by decide⟩ ?_
                    refine q_in (M := jm_C_isText) rfl (Nat.le_of_ble_eq_true rfl) (ls := [some (.ref 0), some (.int a4)]) rfl ?_
                    refine q_iload_n (pc' := 1) ja_C_isText_0 rfl rfl ?_
                    refine q_if_lt (pc' := 4) ja_C_isText_1 rfl ?_ ?_
                    · intro h18
                      refine q_iconst (pc' := 26) ja_C_isText_25 rfl 0 (by decide) ?_
                      refine q_iret ja_C_isText_26 rfl (by decide) ?_
                      show q_W _ _ _ _ 45 [some (.ref 0), some (.int a1), some (.int a2), some (.int a3), some (.int a4), none, none] [.int 0] s
                      refine q_if_ne (pc' := 48) ja_C_hindrance_45 rfl (fun h => absurd ((by decide : (0 : Int32) = 0)) h) (fun _ => ?_)
                      refine q_bipush (pc' := 50) ja_C_hindrance_48 rfl (-2) (by decide) ?_
                      exact q_iret ja_C_hindrance_50 rfl rfl (k9 h2 h4 h6 h8 h10 h11 h13 h15 h17 h18)
                    · intro h19
                      refine q_iload_n (pc' := 5) ja_C_isText_4 rfl rfl ?_
                      refine q_aload_n (pc' := 6) ja_C_isText_5 rfl rfl ?_
                      refine q_getf (pc' := 9) (v := .int (s 0 11)) ja_C_isText_6 rfl (by decide) ⟨rfl, by decide⟩ rfl ?_
                      refine q_ic_ge (pc' := 12) ja_C_isText_9 rfl ?_ ?_
                      · intro h20
                        refine q_iconst (pc' := 26) ja_C_isText_25 rfl 0 (by decide) ?_
                        refine q_iret ja_C_isText_26 rfl (by decide) ?_
                        show q_W _ _ _ _ 45 [some (.ref 0), some (.int a1), some (.int a2), some (.int a3), some (.int a4), none, none] [.int 0] s
                        refine q_if_ne (pc' := 48) ja_C_hindrance_45 rfl (fun h => absurd ((by decide : (0 : Int32) = 0)) h) (fun _ => ?_)
                        refine q_bipush (pc' := 50) ja_C_hindrance_48 rfl (-2) (by decide) ?_
                        exact q_iret ja_C_hindrance_50 rfl rfl (k10 h2 h4 h6 h8 h10 h11 h13 h15 h17 h19 h20)
                      · intro h21
                        refine q_iload_n (pc' := 13) ja_C_isText_12 rfl rfl ?_
                        refine q_aload_n (pc' := 14) ja_C_isText_13 rfl rfl ?_
                        refine q_getf (pc' := 17) (v := .ref 92) ja_C_isText_14 rfl (by decide) ⟨rfl, by decide⟩ rfl ?_
                        refine q_alen (pc' := 18) ja_C_isText_17 rfl (by decide) (kd := 19) (l := 8) rfl (by decide) (v := 8) (by decide) ?_
                        refine q_ic_ge (pc' := 21) ja_C_isText_18 rfl ?_ ?_
                        · intro h22
                          refine q_iconst (pc' := 26) ja_C_isText_25 rfl 0 (by decide) ?_
                          refine q_iret ja_C_isText_26 rfl (by decide) ?_
                          show q_W _ _ _ _ 45 [some (.ref 0), some (.int a1), some (.int a2), some (.int a3), some (.int a4), none, none] [.int 0] s
                          refine q_if_ne (pc' := 48) ja_C_hindrance_45 rfl (fun h => absurd ((by decide : (0 : Int32) = 0)) h) (fun _ => ?_)
                          refine q_bipush (pc' := 50) ja_C_hindrance_48 rfl (-2) (by decide) ?_
                          exact q_iret ja_C_hindrance_50 rfl rfl (k11 h2 h4 h6 h8 h10 h11 h13 h15 h17 h19 h21 h22)
                        · intro h23
                          refine q_iconst (pc' := 22) ja_C_isText_21 rfl 1 (by decide) ?_
                          refine q_goto ja_C_isText_22 ?_
                          refine q_iret ja_C_isText_26 rfl (by decide) ?_
                          show q_W _ _ _ _ 45 [some (.ref 0), some (.int a1), some (.int a2), some (.int a3), some (.int a4), none, none] [.int 1] s
                          refine q_if_ne (pc' := 48) ja_C_hindrance_45 rfl (fun _ => ?_) (fun h => absurd h ((by decide : ¬ (1 : Int32) = 0)))
                          exact (k12 h2 h4 h6 h8 h10 h11 h13 h15 h17 h19 h21 h23)
            · intro h24
              refine q_iload_n (pc' := 6) ja_C_takesWord_5 rfl rfl ?_
              refine q_iconst (pc' := 7) ja_C_takesWord_6 rfl 3 (by decide) ?_
              refine q_ic_ne (pc' := 10) ja_C_takesWord_7 rfl ?_ ?_
              · intro h25
                refine q_iconst (pc' := 15) ja_C_takesWord_14 rfl 0 (by decide) ?_
                refine q_iret ja_C_takesWord_15 rfl (by decide) ?_
                show q_W _ _ _ _ 22 [some (.ref 0), some (.int a1), some (.int a2), some (.int a3), some (.int a4), none, none] [.int 0] s
                refine q_if_eq (pc' := 25) ja_C_hindrance_22 rfl (fun _ => ?_) (fun h => absurd ((by decide : (0 : Int32) = 0)) h)
                refine q_iload_n (pc' := 34) ja_C_hindrance_33 rfl rfl ?_
                refine q_bipush (pc' := 36) ja_C_hindrance_34 rfl 6 (by decide) ?_
                refine q_ic_ne (pc' := 39) ja_C_hindrance_36 rfl ?_ ?_
                · intro h26
                  exact (k13 h2 h4 h6 h8 h10 h24 h25 h26)
                · intro h27
                  refine q_aload_n (pc' := 40) ja_C_hindrance_39 rfl rfl ?_
                  refine q_iload (pc' := 42) ja_C_hindrance_40 rfl rfl ?_
                  refine q_virt (pc' := 45) (c := 0) (as := [.int a4]) (r := []) ja_C_hindrance_42 rfl rfl rfl (by decide) ⟨rfl, by decide⟩ ?_
                  refine q_in (M := jm_C_isText) rfl (Nat.le_of_ble_eq_true rfl) (ls := [some (.ref 0), some (.int a4)]) rfl ?_
                  refine q_iload_n (pc' := 1) ja_C_isText_0 rfl rfl ?_
                  refine q_if_lt (pc' := 4) ja_C_isText_1 rfl ?_ ?_
                  · intro h28
                    refine q_iconst (pc' := 26) ja_C_isText_25 rfl 0 (by decide) ?_
                    refine q_iret ja_C_isText_26 rfl (by decide) ?_
                    show q_W _ _ _ _ 45 [some (.ref 0), some (.int a1), some (.int a2), some (.int a3), some (.int a4), none, none] [.int 0] s
                    refine q_if_ne (pc' := 48) ja_C_hindrance_45 rfl (fun h => absurd ((by decide : (0 : Int32) = 0)) h) (fun _ => ?_)
                    refine q_bipush (pc' := 50) ja_C_hindrance_48 rfl (-2) (by decide) ?_
                    exact q_iret ja_C_hindrance_50 rfl rfl (k14 h2 h4 h6 h8 h10 h24 h25 h27 h28)
                  · intro h29
                    refine q_iload_n (pc' := 5) ja_C_isText_4 rfl rfl ?_
                    refine q_aload_n (pc' := 6) ja_C_isText_5 rfl rfl ?_
                    refine q_getf (pc' := 9) (v := .int (s 0 11)) ja_C_isText_6 rfl (by decide) ⟨rfl, by decide⟩ rfl ?_
                    refine q_ic_ge (pc' := 12) ja_C_isText_9 rfl ?_ ?_
                    · intro h30
                      refine q_iconst (pc' := 26) ja_C_isText_25 rfl 0 (by decide) ?_
                      refine q_iret ja_C_isText_26 rfl (by decide) ?_
                      show q_W _ _ _ _ 45 [some (.ref 0), some (.int a1), some (.int a2), some (.int a3), some (.int a4), none, none] [.int 0] s
                      refine q_if_ne (pc' := 48) ja_C_hindrance_45 rfl (fun h => absurd ((by decide : (0 : Int32) = 0)) h) (fun _ => ?_)
                      refine q_bipush (pc' := 50) ja_C_hindrance_48 rfl (-2) (by decide) ?_
                      exact q_iret ja_C_hindrance_50 rfl rfl (k15 h2 h4 h6 h8 h10 h24 h25 h27 h29 h30)
                    · intro h31
                      refine q_iload_n (pc' := 13) ja_C_isText_12 rfl rfl ?_
                      refine q_aload_n (pc' := 14) ja_C_isText_13 rfl rfl ?_
                      refine q_getf (pc' := 17) (v := .ref 92) ja_C_isText_14 rfl (by decide) ⟨rfl, by decide⟩ rfl ?_
                      refine q_alen (pc' := 18) ja_C_isText_17 rfl (by decide) (kd := 19) (l := 8) rfl (by decide) (v := 8) (by decide) ?_
                      refine q_ic_ge (pc' := 21) ja_C_isText_18 rfl ?_ ?_
                      · intro h32
                        refine q_iconst (pc' := 26) ja_C_isText_25 rfl 0 (by decide) ?_
                        refine q_iret ja_C_isText_26 rfl (by decide) ?_
                        show q_W _ _ _ _ 45 [some (.ref 0), some (.int a1), some (.int a2), some (.int a3), some (.int a4), none, none] [.int 0] s
                        refine q_if_ne (pc' := 48) ja_C_hindrance_45 rfl (fun h => absurd ((by decide : (0 : Int32) = 0)) h) (fun _ => ?_)
                        refine q_bipush (pc' := 50) ja_C_hindrance_48 rfl (-2) (by decide) ?_
                        exact q_iret ja_C_hindrance_50 rfl rfl (k16 h2 h4 h6 h8 h10 h24 h25 h27 h29 h31 h32)
                      · intro h33
                        refine q_iconst (pc' := 22) ja_C_isText_21 rfl 1 (by decide) ?_
                        refine q_goto ja_C_isText_22 ?_
                        refine q_iret ja_C_isText_26 rfl (by decide) ?_
                        show q_W _ _ _ _ 45 [some (.ref 0), some (.int a1), some (.int a2), some (.int a3), some (.int a4), none, none] [.int 1] s
                        refine q_if_ne (pc' := 48) ja_C_hindrance_45 rfl (fun _ => ?_) (fun h => absurd h ((by decide : ¬ (1 : Int32) = 0)))
                        exact (k17 h2 h4 h6 h8 h10 h24 h25 h27 h29 h31 h33)
              · intro h34
                refine q_iconst (pc' := 11) ja_C_takesWord_10 rfl 1 (by decide) ?_
                refine q_goto ja_C_takesWord_11 ?_
                refine q_iret ja_C_takesWord_15 rfl (by decide) ?_
                show q_W _ _ _ _ 22 [some (.ref 0), some (.int a1), some (.int a2), some (.int a3), some (.int a4), none, none] [.int 1] s
                refine q_if_eq (pc' := 25) ja_C_hindrance_22 rfl (fun h => absurd h ((by decide : ¬ (1 : Int32) = 0))) (fun _ => ?_)
                refine q_iload (pc' := 27) ja_C_hindrance_25 rfl rfl ?_
                refine q_stat (pc' := 30) (as := [.int a4]) (r := []) ja_C_hindrance_27 rfl (by decide) rfl rfl ?_
                refine q_in (M := jm_C_isWord) rfl (Nat.le_of_ble_eq_true rfl) (ls := [some (.int a4)]) rfl ?_
                refine q_iload_n (pc' := 1) ja_C_isWord_0 rfl rfl ?_
                refine q_iconst (pc' := 2) ja_C_isWord_1 rfl 1 (by decide) ?_
                refine q_ic_lt (pc' := 5) ja_C_isWord_2 rfl ?_ ?_
                · intro h35
                  refine q_iconst (pc' := 16) ja_C_isWord_15 rfl 0 (by decide) ?_
                  refine q_iret ja_C_isWord_16 rfl (by decide) ?_
                  show q_W _ _ _ _ 30 [some (.ref 0), some (.int a1), some (.int a2), some (.int a3), some (.int a4), none, none] [.int 0] s
                  refine q_if_eq (pc' := 33) ja_C_hindrance_30 rfl (fun _ => ?_) (fun h => absurd ((by decide : (0 : Int32) = 0)) h)
                  refine q_bipush (pc' := 50) ja_C_hindrance_48 rfl (-2) (by decide) ?_
                  exact q_iret ja_C_hindrance_50 rfl rfl (k18 h2 h4 h6 h8 h10 h24 h34 h35)
                · intro h36
                  refine q_iload_n (pc' := 6) ja_C_isWord_5 rfl rfl ?_
                  refine q_bipush (pc' := 8) ja_C_isWord_6 rfl 60 (by decide) ?_
                  refine q_ic_gt (pc' := 11) ja_C_isWord_8 rfl ?_ ?_
                  · intro h37
                    refine q_iconst (pc' := 16) ja_C_isWord_15 rfl 0 (by decide) ?_
                    refine q_iret ja_C_isWord_16 rfl (by decide) ?_
                    show q_W _ _ _ _ 30 [some (.ref 0), some (.int a1), some (.int a2), some (.int a3), some (.int a4), none, none] [.int 0] s
                    refine q_if_eq (pc' := 33) ja_C_hindrance_30 rfl (fun _ => ?_) (fun h => absurd ((by decide : (0 : Int32) = 0)) h)
                    refine q_bipush (pc' := 50) ja_C_hindrance_48 rfl (-2) (by decide) ?_
                    exact q_iret ja_C_hindrance_50 rfl rfl (k19 h2 h4 h6 h8 h10 h24 h34 h36 h37)
                  · intro h38
                    refine q_iconst (pc' := 12) ja_C_isWord_11 rfl 1 (by decide) ?_
                    refine q_goto ja_C_isWord_12 ?_
                    refine q_iret ja_C_isWord_16 rfl (by decide) ?_
                    show q_W _ _ _ _ 30 [some (.ref 0), some (.int a1), some (.int a2), some (.int a3), some (.int a4), none, none] [.int 1] s
                    refine q_if_eq (pc' := 33) ja_C_hindrance_30 rfl (fun h => absurd h ((by decide : ¬ (1 : Int32) = 0))) (fun _ => ?_)
                    refine q_iload_n (pc' := 34) ja_C_hindrance_33 rfl rfl ?_
                    refine q_bipush (pc' := 36) ja_C_hindrance_34 rfl 6 (by decide) ?_
                    refine q_ic_ne (pc' := 39) ja_C_hindrance_36 rfl ?_ ?_
                    · intro h39
                      exact (k20 h2 h4 h6 h8 h10 h24 h34 h36 h38 h39)
                    · intro h40
                      refine q_aload_n (pc' := 40) ja_C_hindrance_39 rfl rfl ?_
                      refine q_iload (pc' := 42) ja_C_hindrance_40 rfl rfl ?_
                      refine q_virt (pc' := 45) (c := 0) (as := [.int a4]) (r := []) ja_C_hindrance_42 rfl rfl rfl (by decide) ⟨rfl, by decide⟩ ?_
                      refine q_in (M := jm_C_isText) rfl (Nat.le_of_ble_eq_true rfl) (ls := [some (.ref 0), some (.int a4)]) rfl ?_
                      refine q_iload_n (pc' := 1) ja_C_isText_0 rfl rfl ?_
                      refine q_if_lt (pc' := 4) ja_C_isText_1 rfl ?_ ?_
                      · intro h41
                        refine q_iconst (pc' := 26) ja_C_isText_25 rfl 0 (by decide) ?_
                        refine q_iret ja_C_isText_26 rfl (by decide) ?_
                        show q_W _ _ _ _ 45 [some (.ref 0), some (.int a1), some (.int a2), some (.int a3), some (.int a4), none, none] [.int 0] s
                        refine q_if_ne (pc' := 48) ja_C_hindrance_45 rfl (fun h => absurd ((by decide : (0 : Int32) = 0)) h) (fun _ => ?_)
                        refine q_bipush (pc' := 50) ja_C_hindrance_48 rfl (-2) (by decide) ?_
                        exact q_iret ja_C_hindrance_50 rfl rfl (k21 h2 h4 h6 h8 h10 h24 h34 h36 h38 h40 h41)
                      · intro h42
                        refine q_iload_n (pc' := 5) ja_C_isText_4 rfl rfl ?_
                        refine q_aload_n (pc' := 6) ja_C_isText_5 rfl rfl ?_
                        refine q_getf (pc' := 9) (v := .int (s 0 11)) ja_C_isText_6 rfl (by decide) ⟨rfl, by decide⟩ rfl ?_
                        refine q_ic_ge (pc' := 12) ja_C_isText_9 rfl ?_ ?_
                        · intro h43
                          refine q_iconst (pc' := 26) ja_C_isText_25 rfl 0 (by decide) ?_
                          refine q_iret ja_C_isText_26 rfl (by decide) ?_
                          show q_W _ _ _ _ 45 [some (.ref 0), some (.int a1), some (.int a2), some (.int a3), some (.int a4), none, none] [.int 0] s
                          refine q_if_ne (pc' := 48) ja_C_hindrance_45 rfl (fun h => absurd ((by decide : (0 : Int32) = 0)) h) (fun _ => ?_)
                          refine q_bipush (pc' := 50) ja_C_hindrance_48 rfl (-2) (by decide) ?_
                          exact q_iret ja_C_hindrance_50 rfl rfl (k22 h2 h4 h6 h8 h10 h24 h34 h36 h38 h40 h42 h43)
                        · intro h44
                          refine q_iload_n (pc' := 13) ja_C_isText_12 rfl rfl ?_
                          refine q_aload_n (pc' := 14) ja_C_isText_13 rfl rfl ?_
                          refine q_getf (pc' := 17) (v := .ref 92) ja_C_isText_14 rfl (by decide) ⟨rfl, by decide⟩ rfl ?_
                          refine q_alen (pc' := 18) ja_C_isText_17 rfl (by decide) (kd := 19) (l := 8) rfl (by decide) (v := 8) (by decide) ?_
                          refine q_ic_ge (pc' := 21) ja_C_isText_18 rfl ?_ ?_
                          · intro h45
                            refine q_iconst (pc' := 26) ja_C_isText_25 rfl 0 (by decide) ?_
                            refine q_iret ja_C_isText_26 rfl (by decide) ?_
                            show q_W _ _ _ _ 45 [some (.ref 0), some (.int a1), some (.int a2), some (.int a3), some (.int a4), none, none] [.int 0] s
                            refine q_if_ne (pc' := 48) ja_C_hindrance_45 rfl (fun h => absurd ((by decide : (0 : Int32) = 0)) h) (fun _ => ?_)
                            refine q_bipush (pc' := 50) ja_C_hindrance_48 rfl (-2) (by decide) ?_
                            exact q_iret ja_C_hindrance_50 rfl rfl (k23 h2 h4 h6 h8 h10 h24 h34 h36 h38 h40 h42 h44 h45)
                          · intro h46
                            refine q_iconst (pc' := 22) ja_C_isText_21 rfl 1 (by decide) ?_
                            refine q_goto ja_C_isText_22 ?_
                            refine q_iret ja_C_isText_26 rfl (by decide) ?_
                            show q_W _ _ _ _ 45 [some (.ref 0), some (.int a1), some (.int a2), some (.int a3), some (.int a4), none, none] [.int 1] s
                            refine q_if_ne (pc' := 48) ja_C_hindrance_45 rfl (fun _ => ?_) (fun h => absurd h ((by decide : ¬ (1 : Int32) = 0)))
                            exact (k24 h2 h4 h6 h8 h10 h24 h34 h36 h38 h40 h42 h44 h46)
set_option maxRecDepth 20000 in
theorem t_C_hindrance_51 {G : jv_X} {d : Nat} {B : Option Value → jg_H → Prop} {s : jg_H} (x1 : Int32) (x2 : Int32) (x3 : Int32) (x4 : Int32)
    (k1 : x1 < 1 → q_W G (d + 2) jm_C_hindrance B 81 [some (.ref 0), some (.int x1), some (.int x2), some (.int x3), some (.int x4), none, none] [] s)
    (k2 : ¬ x1 < 1 → ¬ x1 ≤ 3 → q_W G (d + 2) jm_C_hindrance B 81 [some (.ref 0), some (.int x1), some (.int x2), some (.int x3), some (.int x4), none, none] [] s)
    (k3 : ¬ x1 < 1 → x1 ≤ 3 → (s 0 6) = (-1) → q_W G (d + 2) jm_C_hindrance B 81 [some (.ref 0), some (.int x1), some (.int x2), some (.int x3), some (.int x4), none, none] [] s)
    (k4 : ¬ x1 < 1 → x1 ≤ 3 → ¬ (s 0 6) = (-1) → (s 0 6) < 0 → x3 < 0 → B (some (.int (-2))) s)
    (k5 : ¬ x1 < 1 → x1 ≤ 3 → ¬ (s 0 6) = (-1) → (s 0 6) < 0 → ¬ x3 < 0 → ¬ x1 = 2 → ¬ x3 < (s 58 0) → B (some (.int (-2))) s)
    (k6 : ¬ x1 < 1 → x1 ≤ 3 → ¬ (s 0 6) = (-1) → (s 0 6) < 0 → ¬ x3 < 0 → ¬ x1 = 2 → x3 < (s 58 0) → q_W G (d + 2) jm_C_hindrance B 81 [some (.ref 0), some (.int x1), some (.int x2), some (.int x3), some (.int x4), none, none] [] s)
    (k7 : ¬ x1 < 1 → x1 ≤ 3 → ¬ (s 0 6) = (-1) → (s 0 6) < 0 → ¬ x3 < 0 → x1 = 2 → ¬ x3 ≤ (s 58 0) → B (some (.int (-2))) s)
    (k8 : ¬ x1 < 1 → x1 ≤ 3 → ¬ (s 0 6) = (-1) → (s 0 6) < 0 → ¬ x3 < 0 → x1 = 2 → x3 ≤ (s 58 0) → q_W G (d + 2) jm_C_hindrance B 81 [some (.ref 0), some (.int x1), some (.int x2), some (.int x3), some (.int x4), none, none] [] s)
    (k9 : ¬ x1 < 1 → x1 ≤ 3 → ¬ (s 0 6) = (-1) → ¬ (s 0 6) < 0 → ¬ (s 0 6) < (s 0 3) → x3 < 0 → B (some (.int (-2))) s)
    (k10 : ¬ x1 < 1 → x1 ≤ 3 → ¬ (s 0 6) = (-1) → ¬ (s 0 6) < 0 → ¬ (s 0 6) < (s 0 3) → ¬ x3 < 0 → ¬ x1 = 2 → ¬ x3 < (s 58 0) → B (some (.int (-2))) s)
    (k11 : ¬ x1 < 1 → x1 ≤ 3 → ¬ (s 0 6) = (-1) → ¬ (s 0 6) < 0 → ¬ (s 0 6) < (s 0 3) → ¬ x3 < 0 → ¬ x1 = 2 → x3 < (s 58 0) → q_W G (d + 2) jm_C_hindrance B 81 [some (.ref 0), some (.int x1), some (.int x2), some (.int x3), some (.int x4), none, none] [] s)
    (k12 : ¬ x1 < 1 → x1 ≤ 3 → ¬ (s 0 6) = (-1) → ¬ (s 0 6) < 0 → ¬ (s 0 6) < (s 0 3) → ¬ x3 < 0 → x1 = 2 → ¬ x3 ≤ (s 58 0) → B (some (.int (-2))) s)
    (k13 : ¬ x1 < 1 → x1 ≤ 3 → ¬ (s 0 6) = (-1) → ¬ (s 0 6) < 0 → ¬ (s 0 6) < (s 0 3) → ¬ x3 < 0 → x1 = 2 → x3 ≤ (s 58 0) → q_W G (d + 2) jm_C_hindrance B 81 [some (.ref 0), some (.int x1), some (.int x2), some (.int x3), some (.int x4), none, none] [] s)
    (k14 : ¬ x1 < 1 → x1 ≤ 3 → ¬ (s 0 6) = (-1) → ¬ (s 0 6) < 0 → (s 0 6) < (s 0 3) → ¬ (s 0 6) < 8 → x3 < 0 → B (some (.int (-2))) s)
    (k15 : ¬ x1 < 1 → x1 ≤ 3 → ¬ (s 0 6) = (-1) → ¬ (s 0 6) < 0 → (s 0 6) < (s 0 3) → ¬ (s 0 6) < 8 → ¬ x3 < 0 → ¬ x1 = 2 → ¬ x3 < (s 58 0) → B (some (.int (-2))) s)
    (k16 : ¬ x1 < 1 → x1 ≤ 3 → ¬ (s 0 6) = (-1) → ¬ (s 0 6) < 0 → (s 0 6) < (s 0 3) → ¬ (s 0 6) < 8 → ¬ x3 < 0 → ¬ x1 = 2 → x3 < (s 58 0) → q_W G (d + 2) jm_C_hindrance B 81 [some (.ref 0), some (.int x1), some (.int x2), some (.int x3), some (.int x4), none, none] [] s)
    (k17 : ¬ x1 < 1 → x1 ≤ 3 → ¬ (s 0 6) = (-1) → ¬ (s 0 6) < 0 → (s 0 6) < (s 0 3) → ¬ (s 0 6) < 8 → ¬ x3 < 0 → x1 = 2 → ¬ x3 ≤ (s 58 0) → B (some (.int (-2))) s)
    (k18 : ¬ x1 < 1 → x1 ≤ 3 → ¬ (s 0 6) = (-1) → ¬ (s 0 6) < 0 → (s 0 6) < (s 0 3) → ¬ (s 0 6) < 8 → ¬ x3 < 0 → x1 = 2 → x3 ≤ (s 58 0) → q_W G (d + 2) jm_C_hindrance B 81 [some (.ref 0), some (.int x1), some (.int x2), some (.int x3), some (.int x4), none, none] [] s)
    (k19 : ¬ x1 < 1 → x1 ≤ 3 → ¬ (s 0 6) = (-1) → ¬ (s 0 6) < 0 → (s 0 6) < (s 0 3) → (s 0 6) < 8 → x3 < 0 → B (some (.int (-2))) s)
    (k20 : ¬ x1 < 1 → x1 ≤ 3 → ¬ (s 0 6) = (-1) → ¬ (s 0 6) < 0 → (s 0 6) < (s 0 3) → (s 0 6) < 8 → ¬ x3 < 0 → ¬ x1 = 2 → ¬ x3 < (s ((33 + 3 * (s 0 6).toNatClampNeg) + 1) 0) → B (some (.int (-2))) s)
    (k21 : ¬ x1 < 1 → x1 ≤ 3 → ¬ (s 0 6) = (-1) → ¬ (s 0 6) < 0 → (s 0 6) < (s 0 3) → (s 0 6) < 8 → ¬ x3 < 0 → ¬ x1 = 2 → x3 < (s ((33 + 3 * (s 0 6).toNatClampNeg) + 1) 0) → q_W G (d + 2) jm_C_hindrance B 81 [some (.ref 0), some (.int x1), some (.int x2), some (.int x3), some (.int x4), none, none] [] s)
    (k22 : ¬ x1 < 1 → x1 ≤ 3 → ¬ (s 0 6) = (-1) → ¬ (s 0 6) < 0 → (s 0 6) < (s 0 3) → (s 0 6) < 8 → ¬ x3 < 0 → x1 = 2 → ¬ x3 ≤ (s ((33 + 3 * (s 0 6).toNatClampNeg) + 1) 0) → B (some (.int (-2))) s)
    (k23 : ¬ x1 < 1 → x1 ≤ 3 → ¬ (s 0 6) = (-1) → ¬ (s 0 6) < 0 → (s 0 6) < (s 0 3) → (s 0 6) < 8 → ¬ x3 < 0 → x1 = 2 → x3 ≤ (s ((33 + 3 * (s 0 6).toNatClampNeg) + 1) 0) → q_W G (d + 2) jm_C_hindrance B 81 [some (.ref 0), some (.int x1), some (.int x2), some (.int x3), some (.int x4), none, none] [] s) :
    q_W G (d + 2) jm_C_hindrance B 51 [some (.ref 0), some (.int x1), some (.int x2), some (.int x3), some (.int x4), none, none] [] s := by
  refine q_iload_n (pc' := 52) ja_C_hindrance_51 rfl rfl ?_
  refine q_stat (pc' := 55) (as := [.int x1]) (r := []) ja_C_hindrance_52 rfl (by decide) rfl rfl ?_
  refine q_in (M := jm_C_isAmendment) rfl (Nat.le_of_ble_eq_true rfl) (ls := [some (.int x1)]) rfl ?_
  refine q_iload_n (pc' := 1) ja_C_isAmendment_0 rfl rfl ?_
  refine q_iconst (pc' := 2) ja_C_isAmendment_1 rfl 1 (by decide) ?_
  refine q_ic_lt (pc' := 5) ja_C_isAmendment_2 rfl ?_ ?_
  · intro h1
    refine q_iconst (pc' := 15) ja_C_isAmendment_14 rfl 0 (by decide) ?_
    refine q_iret ja_C_isAmendment_15 rfl (by decide) ?_
    show q_W _ _ _ _ 55 [some (.ref 0), some (.int x1), some (.int x2), some (.int x3), some (.int x4), none, none] [.int 0] s
    refine q_if_eq (pc' := 58) ja_C_hindrance_55 rfl (fun _ => ?_) (fun h => absurd ((by decide : (0 : Int32) = 0)) h)
    exact (k1 h1)
  · intro h2
    refine q_iload_n (pc' := 6) ja_C_isAmendment_5 rfl rfl ?_
    refine q_iconst (pc' := 7) ja_C_isAmendment_6 rfl 3 (by decide) ?_
    refine q_ic_gt (pc' := 10) ja_C_isAmendment_7 rfl ?_ ?_
    · intro h3
      refine q_iconst (pc' := 15) ja_C_isAmendment_14 rfl 0 (by decide) ?_
      refine q_iret ja_C_isAmendment_15 rfl (by decide) ?_
      show q_W _ _ _ _ 55 [some (.ref 0), some (.int x1), some (.int x2), some (.int x3), some (.int x4), none, none] [.int 0] s
      refine q_if_eq (pc' := 58) ja_C_hindrance_55 rfl (fun _ => ?_) (fun h => absurd ((by decide : (0 : Int32) = 0)) h)
      exact (k2 h2 h3)
    · intro h4
      refine q_iconst (pc' := 11) ja_C_isAmendment_10 rfl 1 (by decide) ?_
      refine q_goto ja_C_isAmendment_11 ?_
      refine q_iret ja_C_isAmendment_15 rfl (by decide) ?_
      show q_W _ _ _ _ 55 [some (.ref 0), some (.int x1), some (.int x2), some (.int x3), some (.int x4), none, none] [.int 1] s
      refine q_if_eq (pc' := 58) ja_C_hindrance_55 rfl (fun h => absurd h ((by decide : ¬ (1 : Int32) = 0))) (fun _ => ?_)
      refine q_aload_n (pc' := 59) ja_C_hindrance_58 rfl rfl ?_
      refine q_getf (pc' := 62) (v := .int (s 0 6)) ja_C_hindrance_59 rfl (by decide) ⟨rfl, by decide⟩ rfl ?_
      refine q_iconst (pc' := 63) ja_C_hindrance_62 rfl (-1) (by decide) ?_
      refine q_ic_eq (pc' := 66) ja_C_hindrance_63 rfl ?_ ?_
      · intro h5
        exact (k3 h2 h4 h5)
      · intro h6
        refine q_aload_n (pc' := 67) ja_C_hindrance_66 rfl rfl ?_
        refine q_virt (pc' := 70) (c := 0) (as := []) (r := []) ja_C_hindrance_67 rfl rfl rfl (by decide) ⟨rfl, by decide⟩ ?_
        refine q_in (M := jm_C_floor) rfl (Nat.le_of_ble_eq_true rfl) (ls := [some (.ref 0)]) rfl ?_
        refine q_aload_n (pc' := 1) ja_C_floor_0 rfl rfl ?_
        refine q_aload_n (pc' := 2) ja_C_floor_1 rfl rfl ?_
        refine q_getf (pc' := 5) (v := .int (s 0 6)) ja_C_floor_2 rfl (by decide) ⟨rfl, by decide⟩ rfl ?_
        refine q_virt (pc' := 8) (c := 0) (as := [.int (s 0 6)]) (r := []) ja_C_floor_5 rfl rfl rfl (by decide) ⟨rfl, by decide⟩ ?_
        refine q_in (M := jm_C_isBill) rfl (Nat.le_of_ble_eq_true rfl) (ls := [some (.ref 0), some (.int (s 0 6))]) rfl ?_
        refine q_iload_n (pc' := 1) ja_C_isBill_0 rfl rfl ?_
        refine q_if_lt (pc' := 4) ja_C_isBill_1 rfl ?_ ?_
        · intro h7
          refine q_iconst (pc' := 26) ja_C_isBill_25 rfl 0 (by decide) ?_
          refine q_iret ja_C_isBill_26 rfl (by decide) ?_
          show q_W _ _ _ _ 8 [some (.ref 0)] [.int 0] s
          refine q_if_eq (pc' := 11) ja_C_floor_8 rfl (fun _ => ?_) (fun h => absurd ((by decide : (0 : Int32) = 0)) h)
          refine q_aload_n (pc' := 27) ja_C_floor_26 rfl rfl ?_
          refine q_getf (pc' := 30) (v := .ref 58) ja_C_floor_27 rfl (by decide) ⟨rfl, by decide⟩ rfl ?_
          refine q_aret ja_C_floor_30 rfl ?_
          show q_W _ _ _ _ 70 [some (.ref 0), some (.int x1), some (.int x2), some (.int x3), some (.int x4), none, none] [.ref 58] s
          refine q_iload_n (pc' := 71) ja_C_hindrance_70 rfl rfl ?_
          refine q_iload_n (pc' := 72) ja_C_hindrance_71 rfl rfl ?_
          refine q_virt (pc' := 75) (c := 58) (as := [.int x1, .int x3]) (r := []) ja_C_hindrance_72 rfl rfl rfl (by decide) ⟨rfl, by decide⟩ ?_
          refine q_in (M := jm_Sections_has) rfl (Nat.le_of_ble_eq_true rfl) (ls := [some (.ref 58), some (.int x1), some (.int x3)]) rfl ?_
          refine q_iload_n (pc' := 1) ja_Sections_has_0 rfl rfl ?_
          refine q_if_lt (pc' := 4) ja_Sections_has_1 rfl ?_ ?_
          · intro h8
            refine q_iconst (pc' := 33) ja_Sections_has_32 rfl 0 (by decide) ?_
            refine q_iret ja_Sections_has_33 rfl (by decide) ?_
            show q_W _ _ _ _ 75 [some (.ref 0), some (.int x1), some (.int x2), some (.int x3), some (.int x4), none, none] [.int 0] s
            refine q_if_ne (pc' := 78) ja_C_hindrance_75 rfl (fun h => absurd ((by decide : (0 : Int32) = 0)) h) (fun _ => ?_)
            refine q_bipush (pc' := 80) ja_C_hindrance_78 rfl (-2) (by decide) ?_
            exact q_iret ja_C_hindrance_80 rfl rfl (k4 h2 h4 h6 h7 h8)
          · intro h9
            refine q_iload_n (pc' := 5) ja_Sections_has_4 rfl rfl ?_
            refine q_iconst (pc' := 6) ja_Sections_has_5 rfl 2 (by decide) ?_
            refine q_ic_ne (pc' := 9) ja_Sections_has_6 rfl ?_ ?_
            · intro h10
              refine q_iload_n (pc' := 21) ja_Sections_has_20 rfl rfl ?_
              refine q_aload_n (pc' := 22) ja_Sections_has_21 rfl rfl ?_
              refine q_getf (pc' := 25) (v := .int (s 58 0)) ja_Sections_has_22 rfl (by decide) ⟨rfl, by decide⟩ rfl ?_
              refine q_ic_ge (pc' := 28) ja_Sections_has_25 rfl ?_ ?_
              · intro h11
                refine q_iconst (pc' := 33) ja_Sections_has_32 rfl 0 (by decide) ?_
                refine q_iret ja_Sections_has_33 rfl (by decide) ?_
                show q_W _ _ _ _ 75 [some (.ref 0), some (.int x1), some (.int x2), some (.int x3), some (.int x4), none, none] [.int 0] s
                refine q_if_ne (pc' := 78) ja_C_hindrance_75 rfl (fun h => absurd ((by decide : (0 : Int32) = 0)) h) (fun _ => ?_)
                refine q_bipush (pc' := 80) ja_C_hindrance_78 rfl (-2) (by decide) ?_
                exact q_iret ja_C_hindrance_80 rfl rfl (k5 h2 h4 h6 h7 h9 h10 h11)
              · intro h12
                refine q_iconst (pc' := 29) ja_Sections_has_28 rfl 1 (by decide) ?_
                refine q_goto ja_Sections_has_29 ?_
                refine q_iret ja_Sections_has_33 rfl (by decide) ?_
                show q_W _ _ _ _ 75 [some (.ref 0), some (.int x1), some (.int x2), some (.int x3), some (.int x4), none, none] [.int 1] s
                refine q_if_ne (pc' := 78) ja_C_hindrance_75 rfl (fun _ => ?_) (fun h => absurd h ((by decide : ¬ (1 : Int32) = 0)))
                exact (k6 h2 h4 h6 h7 h9 h10 h12)
            · intro h13
              refine q_iload_n (pc' := 10) ja_Sections_has_9 rfl rfl ?_
              refine q_aload_n (pc' := 11) ja_Sections_has_10 rfl rfl ?_
              refine q_getf (pc' := 14) (v := .int (s 58 0)) ja_Sections_has_11 rfl (by decide) ⟨rfl, by decide⟩ rfl ?_
              refine q_ic_gt (pc' := 17) ja_Sections_has_14 rfl ?_ ?_
              · intro h14
                refine q_iconst (pc' := 33) ja_Sections_has_32 rfl 0 (by decide) ?_
                refine q_iret ja_Sections_has_33 rfl (by decide) ?_
                show q_W _ _ _ _ 75 [some (.ref 0), some (.int x1), some (.int x2), some (.int x3), some (.int x4), none, none] [.int 0] s
                refine q_if_ne (pc' := 78) ja_C_hindrance_75 rfl (fun h => absurd ((by decide : (0 : Int32) = 0)) h) (fun _ => ?_)
                refine q_bipush (pc' := 80) ja_C_hindrance_78 rfl (-2) (by decide) ?_
                exact q_iret ja_C_hindrance_80 rfl rfl (k7 h2 h4 h6 h7 h9 h13 h14)
              · intro h15
                refine q_goto ja_Sections_has_17 ?_
                refine q_iconst (pc' := 29) ja_Sections_has_28 rfl 1 (by decide) ?_
                refine q_goto ja_Sections_has_29 ?_
                refine q_iret ja_Sections_has_33 rfl (by decide) ?_
                show q_W _ _ _ _ 75 [some (.ref 0), some (.int x1), some (.int x2), some (.int x3), some (.int x4), none, none] [.int 1] s
                refine q_if_ne (pc' := 78) ja_C_hindrance_75 rfl (fun _ => ?_) (fun h => absurd h ((by decide : ¬ (1 : Int32) = 0)))
                exact (k8 h2 h4 h6 h7 h9 h13 h15)
        · intro h16
          refine q_iload_n (pc' := 5) ja_C_isBill_4 rfl rfl ?_
          refine q_aload_n (pc' := 6) ja_C_isBill_5 rfl rfl ?_
          refine q_getf (pc' := 9) (v := .int (s 0 3)) ja_C_isBill_6 rfl (by decide) ⟨rfl, by decide⟩ rfl ?_
          refine q_ic_ge (pc' := 12) ja_C_isBill_9 rfl ?_ ?_
          · intro h17
            refine q_iconst (pc' := 26) ja_C_isBill_25 rfl 0 (by decide) ?_
            refine q_iret ja_C_isBill_26 rfl (by decide) ?_
            show q_W _ _ _ _ 8 [some (.ref 0)] [.int 0] s
            refine q_if_eq (pc' := 11) ja_C_floor_8 rfl (fun _ => ?_) (fun h => absurd ((by decide : (0 : Int32) = 0)) h)
            refine q_aload_n (pc' := 27) ja_C_floor_26 rfl rfl ?_
            refine q_getf (pc' := 30) (v := .ref 58) ja_C_floor_27 rfl (by decide) ⟨rfl, by decide⟩ rfl ?_
            refine q_aret ja_C_floor_30 rfl ?_
            show q_W _ _ _ _ 70 [some (.ref 0), some (.int x1), some (.int x2), some (.int x3), some (.int x4), none, none] [.ref 58] s
            refine q_iload_n (pc' := 71) ja_C_hindrance_70 rfl rfl ?_
            refine q_iload_n (pc' := 72) ja_C_hindrance_71 rfl rfl ?_
            refine q_virt (pc' := 75) (c := 58) (as := [.int x1, .int x3]) (r := []) ja_C_hindrance_72 rfl rfl rfl (by decide) ⟨rfl, by decide⟩ ?_
            refine q_in (M := jm_Sections_has) rfl (Nat.le_of_ble_eq_true rfl) (ls := [some (.ref 58), some (.int x1), some (.int x3)]) rfl ?_
            refine q_iload_n (pc' := 1) ja_Sections_has_0 rfl rfl ?_
            refine q_if_lt (pc' := 4) ja_Sections_has_1 rfl ?_ ?_
            · intro h18
              refine q_iconst (pc' := 33) ja_Sections_has_32 rfl 0 (by decide) ?_
              refine q_iret ja_Sections_has_33 rfl (by decide) ?_
              show q_W _ _ _ _ 75 [some (.ref 0), some (.int x1), some (.int x2), some (.int x3), some (.int x4), none, none] [.int 0] s
              refine q_if_ne (pc' := 78) ja_C_hindrance_75 rfl (fun h => absurd ((by decide : (0 : Int32) = 0)) h) (fun _ => ?_)
              refine q_bipush (pc' := 80) ja_C_hindrance_78 rfl (-2) (by decide) ?_
              exact q_iret ja_C_hindrance_80 rfl rfl (k9 h2 h4 h6 h16 h17 h18)
            · intro h19
              refine q_iload_n (pc' := 5) ja_Sections_has_4 rfl rfl ?_
              refine q_iconst (pc' := 6) ja_Sections_has_5 rfl 2 (by decide) ?_
              refine q_ic_ne (pc' := 9) ja_Sections_has_6 rfl ?_ ?_
              · intro h20
                refine q_iload_n (pc' := 21) ja_Sections_has_20 rfl rfl ?_
                refine q_aload_n (pc' := 22) ja_Sections_has_21 rfl rfl ?_
                refine q_getf (pc' := 25) (v := .int (s 58 0)) ja_Sections_has_22 rfl (by decide) ⟨rfl, by decide⟩ rfl ?_
                refine q_ic_ge (pc' := 28) ja_Sections_has_25 rfl ?_ ?_
                · intro h21
                  refine q_iconst (pc' := 33) ja_Sections_has_32 rfl 0 (by decide) ?_
                  refine q_iret ja_Sections_has_33 rfl (by decide) ?_
                  show q_W _ _ _ _ 75 [some (.ref 0), some (.int x1), some (.int x2), some (.int x3), some (.int x4), none, none] [.int 0] s
                  refine q_if_ne (pc' := 78) ja_C_hindrance_75 rfl (fun h => absurd ((by decide : (0 : Int32) = 0)) h) (fun _ => ?_)
                  refine q_bipush (pc' := 80) ja_C_hindrance_78 rfl (-2) (by decide) ?_
                  exact q_iret ja_C_hindrance_80 rfl rfl (k10 h2 h4 h6 h16 h17 h19 h20 h21)
                · intro h22
                  refine q_iconst (pc' := 29) ja_Sections_has_28 rfl 1 (by decide) ?_
                  refine q_goto ja_Sections_has_29 ?_
                  refine q_iret ja_Sections_has_33 rfl (by decide) ?_
                  show q_W _ _ _ _ 75 [some (.ref 0), some (.int x1), some (.int x2), some (.int x3), some (.int x4), none, none] [.int 1] s
                  refine q_if_ne (pc' := 78) ja_C_hindrance_75 rfl (fun _ => ?_) (fun h => absurd h ((by decide : ¬ (1 : Int32) = 0)))
                  exact (k11 h2 h4 h6 h16 h17 h19 h20 h22)
              · intro h23
                refine q_iload_n (pc' := 10) ja_Sections_has_9 rfl rfl ?_
                refine q_aload_n (pc' := 11) ja_Sections_has_10 rfl rfl ?_
                refine q_getf (pc' := 14) (v := .int (s 58 0)) ja_Sections_has_11 rfl (by decide) ⟨rfl, by decide⟩ rfl ?_
                refine q_ic_gt (pc' := 17) ja_Sections_has_14 rfl ?_ ?_
                · intro h24
                  refine q_iconst (pc' := 33) ja_Sections_has_32 rfl 0 (by decide) ?_
                  refine q_iret ja_Sections_has_33 rfl (by decide) ?_
                  show q_W _ _ _ _ 75 [some (.ref 0), some (.int x1), some (.int x2), some (.int x3), some (.int x4), none, none] [.int 0] s
                  refine q_if_ne (pc' := 78) ja_C_hindrance_75 rfl (fun h => absurd ((by decide : (0 : Int32) = 0)) h) (fun _ => ?_)
                  refine q_bipush (pc' := 80) ja_C_hindrance_78 rfl (-2) (by decide) ?_
                  exact q_iret ja_C_hindrance_80 rfl rfl (k12 h2 h4 h6 h16 h17 h19 h23 h24)
                · intro h25
                  refine q_goto ja_Sections_has_17 ?_
                  refine q_iconst (pc' := 29) ja_Sections_has_28 rfl 1 (by decide) ?_
                  refine q_goto ja_Sections_has_29 ?_
                  refine q_iret ja_Sections_has_33 rfl (by decide) ?_
                  show q_W _ _ _ _ 75 [some (.ref 0), some (.int x1), some (.int x2), some (.int x3), some (.int x4), none, none] [.int 1] s
                  refine q_if_ne (pc' := 78) ja_C_hindrance_75 rfl (fun _ => ?_) (fun h => absurd h ((by decide : ¬ (1 : Int32) = 0)))
                  exact (k13 h2 h4 h6 h16 h17 h19 h23 h25)
          · intro h26
            refine q_iload_n (pc' := 13) ja_C_isBill_12 rfl rfl ?_
            refine q_aload_n (pc' := 14) ja_C_isBill_13 rfl rfl ?_
            refine q_getf (pc' := 17) (v := .ref 32) ja_C_isBill_14 rfl (by decide) ⟨rfl, by decide⟩ rfl ?_
            refine q_alen (pc' := 18) ja_C_isBill_17 rfl (by decide) (kd := 17) (l := 8) rfl (by decide) (v := 8) (by decide) ?_
            refine q_ic_ge (pc' := 21) ja_C_isBill_18 rfl ?_ ?_
            · intro h27
              refine q_iconst (pc' := 26) ja_C_isBill_25 rfl 0 (by decide) ?_
              refine q_iret ja_C_isBill_26 rfl (by decide) ?_
              show q_W _ _ _ _ 8 [some (.ref 0)] [.int 0] s
              refine q_if_eq (pc' := 11) ja_C_floor_8 rfl (fun _ => ?_) (fun h => absurd ((by decide : (0 : Int32) = 0)) h)
              refine q_aload_n (pc' := 27) ja_C_floor_26 rfl rfl ?_
              refine q_getf (pc' := 30) (v := .ref 58) ja_C_floor_27 rfl (by decide) ⟨rfl, by decide⟩ rfl ?_
              refine q_aret ja_C_floor_30 rfl ?_
              show q_W _ _ _ _ 70 [some (.ref 0), some (.int x1), some (.int x2), some (.int x3), some (.int x4), none, none] [.ref 58] s
              refine q_iload_n (pc' := 71) ja_C_hindrance_70 rfl rfl ?_
              refine q_iload_n (pc' := 72) ja_C_hindrance_71 rfl rfl ?_
              refine q_virt (pc' := 75) (c := 58) (as := [.int x1, .int x3]) (r := []) ja_C_hindrance_72 rfl rfl rfl (by decide) ⟨rfl, by decide⟩ ?_
              refine q_in (M := jm_Sections_has) rfl (Nat.le_of_ble_eq_true rfl) (ls := [some (.ref 58), some (.int x1), some (.int x3)]) rfl ?_
              refine q_iload_n (pc' := 1) ja_Sections_has_0 rfl rfl ?_
              refine q_if_lt (pc' := 4) ja_Sections_has_1 rfl ?_ ?_
              · intro h28
                refine q_iconst (pc' := 33) ja_Sections_has_32 rfl 0 (by decide) ?_
                refine q_iret ja_Sections_has_33 rfl (by decide) ?_
                show q_W _ _ _ _ 75 [some (.ref 0), some (.int x1), some (.int x2), some (.int x3), some (.int x4), none, none] [.int 0] s
                refine q_if_ne (pc' := 78) ja_C_hindrance_75 rfl (fun h => absurd ((by decide : (0 : Int32) = 0)) h) (fun _ => ?_)
                refine q_bipush (pc' := 80) ja_C_hindrance_78 rfl (-2) (by decide) ?_
                exact q_iret ja_C_hindrance_80 rfl rfl (k14 h2 h4 h6 h16 h26 h27 h28)
              · intro h29
                refine q_iload_n (pc' := 5) ja_Sections_has_4 rfl rfl ?_
                refine q_iconst (pc' := 6) ja_Sections_has_5 rfl 2 (by decide) ?_
                refine q_ic_ne (pc' := 9) ja_Sections_has_6 rfl ?_ ?_
                · intro h30
                  refine q_iload_n (pc' := 21) ja_Sections_has_20 rfl rfl ?_
                  refine q_aload_n (pc' := 22) ja_Sections_has_21 rfl rfl ?_
                  refine q_getf (pc' := 25) (v := .int (s 58 0)) ja_Sections_has_22 rfl (by decide) ⟨rfl, by decide⟩ rfl ?_
                  refine q_ic_ge (pc' := 28) ja_Sections_has_25 rfl ?_ ?_
                  · intro h31
                    refine q_iconst (pc' := 33) ja_Sections_has_32 rfl 0 (by decide) ?_
                    refine q_iret ja_Sections_has_33 rfl (by decide) ?_
                    show q_W _ _ _ _ 75 [some (.ref 0), some (.int x1), some (.int x2), some (.int x3), some (.int x4), none, none] [.int 0] s
                    refine q_if_ne (pc' := 78) ja_C_hindrance_75 rfl (fun h => absurd ((by decide : (0 : Int32) = 0)) h) (fun _ => ?_)
                    refine q_bipush (pc' := 80) ja_C_hindrance_78 rfl (-2) (by decide) ?_
                    exact q_iret ja_C_hindrance_80 rfl rfl (k15 h2 h4 h6 h16 h26 h27 h29 h30 h31)
                  · intro h32
                    refine q_iconst (pc' := 29) ja_Sections_has_28 rfl 1 (by decide) ?_
                    refine q_goto ja_Sections_has_29 ?_
                    refine q_iret ja_Sections_has_33 rfl (by decide) ?_
                    show q_W _ _ _ _ 75 [some (.ref 0), some (.int x1), some (.int x2), some (.int x3), some (.int x4), none, none] [.int 1] s
                    refine q_if_ne (pc' := 78) ja_C_hindrance_75 rfl (fun _ => ?_) (fun h => absurd h ((by decide : ¬ (1 : Int32) = 0)))
                    exact (k16 h2 h4 h6 h16 h26 h27 h29 h30 h32)
                · intro h33
                  refine q_iload_n (pc' := 10) ja_Sections_has_9 rfl rfl ?_
                  refine q_aload_n (pc' := 11) ja_Sections_has_10 rfl rfl ?_
                  refine q_getf (pc' := 14) (v := .int (s 58 0)) ja_Sections_has_11 rfl (by decide) ⟨rfl, by decide⟩ rfl ?_
                  refine q_ic_gt (pc' := 17) ja_Sections_has_14 rfl ?_ ?_
                  · intro h34
                    refine q_iconst (pc' := 33) ja_Sections_has_32 rfl 0 (by decide) ?_
                    refine q_iret ja_Sections_has_33 rfl (by decide) ?_
                    show q_W _ _ _ _ 75 [some (.ref 0), some (.int x1), some (.int x2), some (.int x3), some (.int x4), none, none] [.int 0] s
                    refine q_if_ne (pc' := 78) ja_C_hindrance_75 rfl (fun h => absurd ((by decide : (0 : Int32) = 0)) h) (fun _ => ?_)
                    refine q_bipush (pc' := 80) ja_C_hindrance_78 rfl (-2) (by decide) ?_
                    exact q_iret ja_C_hindrance_80 rfl rfl (k17 h2 h4 h6 h16 h26 h27 h29 h33 h34)
                  · intro h35
                    refine q_goto ja_Sections_has_17 ?_
                    refine q_iconst (pc' := 29) ja_Sections_has_28 rfl 1 (by decide) ?_
                    refine q_goto ja_Sections_has_29 ?_
                    refine q_iret ja_Sections_has_33 rfl (by decide) ?_
                    show q_W _ _ _ _ 75 [some (.ref 0), some (.int x1), some (.int x2), some (.int x3), some (.int x4), none, none] [.int 1] s
                    refine q_if_ne (pc' := 78) ja_C_hindrance_75 rfl (fun _ => ?_) (fun h => absurd h ((by decide : ¬ (1 : Int32) = 0)))
                    exact (k18 h2 h4 h6 h16 h26 h27 h29 h33 h35)
            · intro h36
              refine q_iconst (pc' := 22) ja_C_isBill_21 rfl 1 (by decide) ?_
              refine q_goto ja_C_isBill_22 ?_
              refine q_iret ja_C_isBill_26 rfl (by decide) ?_
              show q_W _ _ _ _ 8 [some (.ref 0)] [.int 1] s
              refine q_if_eq (pc' := 11) ja_C_floor_8 rfl (fun h => absurd h ((by decide : ¬ (1 : Int32) = 0))) (fun _ => ?_)
              refine q_aload_n (pc' := 12) ja_C_floor_11 rfl rfl ?_
              refine q_getf (pc' := 15) (v := .ref 32) ja_C_floor_12 rfl (by decide) ⟨rfl, by decide⟩ rfl ?_
              refine q_aload_n (pc' := 16) ja_C_floor_15 rfl rfl ?_
              refine q_getf (pc' := 19) (v := .int (s 0 6)) ja_C_floor_16 rfl (by decide) ⟨rfl, by decide⟩ rfl ?_
              refine q_aald (pc' := 20) (v := .ref (33 + 3 * (s 0 6).toNatClampNeg)) ja_C_floor_19 rfl (by decide) (kd := 17) (l := 8) rfl (by decide) (q_inr (l := 8) (by decide) h16 h36) (f_A32 (f_in (q_inr (l := 8) (by decide) h16 h36))) ?_
              refine q_getf (pc' := 23) (v := .ref ((33 + 3 * (s 0 6).toNatClampNeg) + 1)) ja_C_floor_20 rfl (f_1_c (f_m32 (f_in (q_inr (l := 8) (by decide) h16 h36)))) ⟨by rw [f_1_k (f_m32 (f_in (q_inr (l := 8) (by decide) h16 h36)))], by decide⟩ (f_1_g2 (f_m32 (f_in (q_inr (l := 8) (by decide) h16 h36)))) ?_
              refine q_goto ja_C_floor_23 ?_
              refine q_aret ja_C_floor_30 rfl ?_
              show q_W _ _ _ _ 70 [some (.ref 0), some (.int x1), some (.int x2), some (.int x3), some (.int x4), none, none] [.ref ((33 + 3 * (s 0 6).toNatClampNeg) + 1)] s
              refine q_iload_n (pc' := 71) ja_C_hindrance_70 rfl rfl ?_
              refine q_iload_n (pc' := 72) ja_C_hindrance_71 rfl rfl ?_
              refine q_virt (pc' := 75) (c := ((33 + 3 * (s 0 6).toNatClampNeg) + 1)) (as := [.int x1, .int x3]) (r := []) ja_C_hindrance_72 rfl rfl rfl (f_8_c (f_1_s2 (f_m32 (f_in (q_inr (l := 8) (by decide) h16 h36))))) ⟨by rw [f_8_k (f_1_s2 (f_m32 (f_in (q_inr (l := 8) (by decide) h16 h36))))], by decide⟩ ?_
              refine q_in (M := jm_Sections_has) rfl (Nat.le_of_ble_eq_true rfl) (ls := [some (.ref ((33 + 3 * (s 0 6).toNatClampNeg) + 1)), some (.int x1), some (.int x3)]) rfl ?_
              refine q_iload_n (pc' := 1) ja_Sections_has_0 rfl rfl ?_
              refine q_if_lt (pc' := 4) ja_Sections_has_1 rfl ?_ ?_
              · intro h37
                refine q_iconst (pc' := 33) ja_Sections_has_32 rfl 0 (by decide) ?_
                refine q_iret ja_Sections_has_33 rfl (by decide) ?_
                show q_W _ _ _ _ 75 [some (.ref 0), some (.int x1), some (.int x2), some (.int x3), some (.int x4), none, none] [.int 0] s
                refine q_if_ne (pc' := 78) ja_C_hindrance_75 rfl (fun h => absurd ((by decide : (0 : Int32) = 0)) h) (fun _ => ?_)
                refine q_bipush (pc' := 80) ja_C_hindrance_78 rfl (-2) (by decide) ?_
                exact q_iret ja_C_hindrance_80 rfl rfl (k19 h2 h4 h6 h16 h26 h36 h37)
              · intro h38
                refine q_iload_n (pc' := 5) ja_Sections_has_4 rfl rfl ?_
                refine q_iconst (pc' := 6) ja_Sections_has_5 rfl 2 (by decide) ?_
                refine q_ic_ne (pc' := 9) ja_Sections_has_6 rfl ?_ ?_
                · intro h39
                  refine q_iload_n (pc' := 21) ja_Sections_has_20 rfl rfl ?_
                  refine q_aload_n (pc' := 22) ja_Sections_has_21 rfl rfl ?_
                  refine q_getf (pc' := 25) (v := .int (s ((33 + 3 * (s 0 6).toNatClampNeg) + 1) 0)) ja_Sections_has_22 rfl (f_8_c (f_1_s2 (f_m32 (f_in (q_inr (l := 8) (by decide) h16 h36))))) ⟨by rw [f_8_k (f_1_s2 (f_m32 (f_in (q_inr (l := 8) (by decide) h16 h36))))], by decide⟩ (f_i (f_8_k (f_1_s2 (f_m32 (f_in (q_inr (l := 8) (by decide) h16 h36))))) rfl) ?_
                  refine q_ic_ge (pc' := 28) ja_Sections_has_25 rfl ?_ ?_
                  · intro h40
                    refine q_iconst (pc' := 33) ja_Sections_has_32 rfl 0 (by decide) ?_
                    refine q_iret ja_Sections_has_33 rfl (by decide) ?_
                    show q_W _ _ _ _ 75 [some (.ref 0), some (.int x1), some (.int x2), some (.int x3), some (.int x4), none, none] [.int 0] s
                    refine q_if_ne (pc' := 78) ja_C_hindrance_75 rfl (fun h => absurd ((by decide : (0 : Int32) = 0)) h) (fun _ => ?_)
                    refine q_bipush (pc' := 80) ja_C_hindrance_78 rfl (-2) (by decide) ?_
                    exact q_iret ja_C_hindrance_80 rfl rfl (k20 h2 h4 h6 h16 h26 h36 h38 h39 h40)
                  · intro h41
                    refine q_iconst (pc' := 29) ja_Sections_has_28 rfl 1 (by decide) ?_
                    refine q_goto ja_Sections_has_29 ?_
                    refine q_iret ja_Sections_has_33 rfl (by decide) ?_
                    show q_W _ _ _ _ 75 [some (.ref 0), some (.int x1), some (.int x2), some (.int x3), some (.int x4), none, none] [.int 1] s
                    refine q_if_ne (pc' := 78) ja_C_hindrance_75 rfl (fun _ => ?_) (fun h => absurd h ((by decide : ¬ (1 : Int32) = 0)))
                    exact (k21 h2 h4 h6 h16 h26 h36 h38 h39 h41)
                · intro h42
                  refine q_iload_n (pc' := 10) ja_Sections_has_9 rfl rfl ?_
                  refine q_aload_n (pc' := 11) ja_Sections_has_10 rfl rfl ?_
                  refine q_getf (pc' := 14) (v := .int (s ((33 + 3 * (s 0 6).toNatClampNeg) + 1) 0)) ja_Sections_has_11 rfl (f_8_c (f_1_s2 (f_m32 (f_in (q_inr (l := 8) (by decide) h16 h36))))) ⟨by rw [f_8_k (f_1_s2 (f_m32 (f_in (q_inr (l := 8) (by decide) h16 h36))))], by decide⟩ (f_i (f_8_k (f_1_s2 (f_m32 (f_in (q_inr (l := 8) (by decide) h16 h36))))) rfl) ?_
                  refine q_ic_gt (pc' := 17) ja_Sections_has_14 rfl ?_ ?_
                  · intro h43
                    refine q_iconst (pc' := 33) ja_Sections_has_32 rfl 0 (by decide) ?_
                    refine q_iret ja_Sections_has_33 rfl (by decide) ?_
                    show q_W _ _ _ _ 75 [some (.ref 0), some (.int x1), some (.int x2), some (.int x3), some (.int x4), none, none] [.int 0] s
                    refine q_if_ne (pc' := 78) ja_C_hindrance_75 rfl (fun h => absurd ((by decide : (0 : Int32) = 0)) h) (fun _ => ?_)
                    refine q_bipush (pc' := 80) ja_C_hindrance_78 rfl (-2) (by decide) ?_
                    exact q_iret ja_C_hindrance_80 rfl rfl (k22 h2 h4 h6 h16 h26 h36 h38 h42 h43)
                  · intro h44
                    refine q_goto ja_Sections_has_17 ?_
                    refine q_iconst (pc' := 29) ja_Sections_has_28 rfl 1 (by decide) ?_
                    refine q_goto ja_Sections_has_29 ?_
                    refine q_iret ja_Sections_has_33 rfl (by decide) ?_
                    show q_W _ _ _ _ 75 [some (.ref 0), some (.int x1), some (.int x2), some (.int x3), some (.int x4), none, none] [.int 1] s
                    refine q_if_ne (pc' := 78) ja_C_hindrance_75 rfl (fun _ => ?_) (fun h => absurd h ((by decide : ¬ (1 : Int32) = 0)))
                    exact (k23 h2 h4 h6 h16 h26 h36 h38 h42 h44)
set_option maxRecDepth 20000 in
theorem t_C_hindrance_81 {G : jv_X} {d : Nat} {B : Option Value → jg_H → Prop} {s : jg_H} (x1 : Int32) (x2 : Int32) (x3 : Int32) (x4 : Int32)
    (k1 : ¬ (s 0 6) = (-1) → q_W G (d + 2) jm_C_hindrance B 97 [some (.ref 0), some (.int x1), some (.int x2), some (.int x3), some (.int x4), none, none] [] s)
    (k2 : (s 0 6) = (-1) → x1 = 6 → q_W G (d + 2) jm_C_hindrance B 97 [some (.ref 0), some (.int x1), some (.int x2), some (.int x3), some (.int x4), none, none] [] s)
    (k3 : (s 0 6) = (-1) → ¬ x1 = 6 → B (some (.int 1)) s) :
    q_W G (d + 2) jm_C_hindrance B 81 [some (.ref 0), some (.int x1), some (.int x2), some (.int x3), some (.int x4), none, none] [] s := by
  refine q_aload_n (pc' := 82) ja_C_hindrance_81 rfl rfl ?_
  refine q_getf (pc' := 85) (v := .int (s 0 6)) ja_C_hindrance_82 rfl (by decide) ⟨rfl, by decide⟩ rfl ?_
  refine q_iconst (pc' := 86) ja_C_hindrance_85 rfl (-1) (by decide) ?_
  refine q_ic_ne (pc' := 89) ja_C_hindrance_86 rfl ?_ ?_
  · intro h1
    exact (k1 h1)
  · intro h2
    refine q_iload_n (pc' := 90) ja_C_hindrance_89 rfl rfl ?_
    refine q_bipush (pc' := 92) ja_C_hindrance_90 rfl 6 (by decide) ?_
    refine q_ic_eq (pc' := 95) ja_C_hindrance_92 rfl ?_ ?_
    · intro h3
      exact (k2 h2 h3)
    · intro h4
      refine q_iconst (pc' := 96) ja_C_hindrance_95 rfl 1 (by decide) ?_
      exact q_iret ja_C_hindrance_96 rfl rfl (k3 h2 h4)
set_option maxRecDepth 20000 in
theorem t_C_hindrance_97 {G : jv_X} {d : Nat} {B : Option Value → jg_H → Prop} {s : jg_H} (x1 : Int32) (x2 : Int32) (x3 : Int32) (x4 : Int32)
    (k1 : (s 0 19) < 100 → jv_in x2 15 = true)
    (k2 : (s 0 19) < 100 → ¬ (s (2 + 2 * x2.toNatClampNeg) 1) = 0 → ¬ (s 60 0) = 0 → x1 = 0 → B (some (.int 4)) s)
    (k3 : (s 0 19) < 100 → ¬ (s (2 + 2 * x2.toNatClampNeg) 1) = 0 → ¬ (s 60 0) = 0 → ¬ x1 = 0 → ¬ x1 = 6 → q_W G (d + 2) jm_C_hindrance B 157 [some (.ref 0), some (.int x1), some (.int x2), some (.int x3), some (.int x4), none, none] [] s)
    (k4 : (s 0 19) < 100 → ¬ (s (2 + 2 * x2.toNatClampNeg) 1) = 0 → ¬ (s 60 0) = 0 → ¬ x1 = 0 → x1 = 6 → B (some (.int 4)) s)
    (k5 : (s 0 19) < 100 → ¬ (s (2 + 2 * x2.toNatClampNeg) 1) = 0 → (s 60 0) = 0 → x1 = 0 → q_W G (d + 2) jm_C_hindrance B 157 [some (.ref 0), some (.int x1), some (.int x2), some (.int x3), some (.int x4), none, none] [] s)
    (k6 : (s 0 19) < 100 → ¬ (s (2 + 2 * x2.toNatClampNeg) 1) = 0 → (s 60 0) = 0 → ¬ x1 = 0 → ¬ x1 = 6 → B (some (.int 4)) s)
    (k7 : (s 0 19) < 100 → ¬ (s (2 + 2 * x2.toNatClampNeg) 1) = 0 → (s 60 0) = 0 → ¬ x1 = 0 → x1 = 6 → q_W G (d + 2) jm_C_hindrance B 157 [some (.ref 0), some (.int x1), some (.int x2), some (.int x3), some (.int x4), none, none] [] s)
    (k8 : (s 0 19) < 100 → (s (2 + 2 * x2.toNatClampNeg) 1) = 0 → B (some (.int 3)) s)
    (k9 : ¬ (s 0 19) < 100 → B (some (.int 2)) s) :
    q_W G (d + 2) jm_C_hindrance B 97 [some (.ref 0), some (.int x1), some (.int x2), some (.int x3), some (.int x4), none, none] [] s := by
  refine q_aload_n (pc' := 98) ja_C_hindrance_97 rfl rfl ?_
  refine q_getf (pc' := 101) (v := .int (s 0 19)) ja_C_hindrance_98 rfl (by decide) ⟨rfl, by decide⟩ rfl ?_
  refine q_bipush (pc' := 103) ja_C_hindrance_101 rfl 100 (by decide) ?_
  refine q_ic_lt (pc' := 106) ja_C_hindrance_103 rfl ?_ ?_
  · intro h1
    refine q_aload_n (pc' := 109) ja_C_hindrance_108 rfl rfl ?_
    refine q_getf (pc' := 112) (v := .ref 1) ja_C_hindrance_109 rfl (by decide) ⟨rfl, by decide⟩ rfl ?_
    refine q_iload_n (pc' := 113) ja_C_hindrance_112 rfl rfl ?_
    refine q_aald (pc' := 114) (v := .ref (2 + 2 * x2.toNatClampNeg)) ja_C_hindrance_113 rfl (by decide) (kd := 16) (l := 15) rfl (by decide) (k1 h1) (f_A1 (f_in (k1 h1))) ?_
    refine q_getf (pc' := 117) (v := .int (s (2 + 2 * x2.toNatClampNeg) 1)) ja_C_hindrance_114 rfl (f_5_c (f_m1 (f_in (k1 h1)))) ⟨by rw [f_5_k (f_m1 (f_in (k1 h1)))], by decide⟩ (f_i (f_5_k (f_m1 (f_in (k1 h1)))) rfl) ?_
    refine q_if_ne (pc' := 120) ja_C_hindrance_117 rfl ?_ ?_
    · intro h2
      refine q_aload_n (pc' := 123) ja_C_hindrance_122 rfl rfl ?_
      refine q_getf (pc' := 126) (v := .ref 60) ja_C_hindrance_123 rfl (by decide) ⟨rfl, by decide⟩ rfl ?_
      refine q_getf (pc' := 129) (v := .int (s 60 0)) ja_C_hindrance_126 rfl (by decide) ⟨rfl, by decide⟩ rfl ?_
      refine q_if_ne (pc' := 132) ja_C_hindrance_129 rfl ?_ ?_
      · intro h3
        refine q_iconst (pc' := 137) ja_C_hindrance_136 rfl 0 (by decide) ?_
        refine q_iload_n (pc' := 138) ja_C_hindrance_137 rfl rfl ?_
        refine q_if_eq (pc' := 141) ja_C_hindrance_138 rfl ?_ ?_
        · intro h4
          refine q_iconst (pc' := 148) ja_C_hindrance_147 rfl 1 (by decide) ?_
          refine q_goto ja_C_hindrance_148 ?_
          refine q_ic_eq (pc' := 155) ja_C_hindrance_152 rfl (fun h => absurd h ((by decide : ¬ (0 : Int32) = 1))) (fun _ => ?_)
          refine q_iconst (pc' := 156) ja_C_hindrance_155 rfl 4 (by decide) ?_
          exact q_iret ja_C_hindrance_156 rfl rfl (k2 h1 h2 h3 h4)
        · intro h5
          refine q_iload_n (pc' := 142) ja_C_hindrance_141 rfl rfl ?_
          refine q_bipush (pc' := 144) ja_C_hindrance_142 rfl 6 (by decide) ?_
          refine q_ic_ne (pc' := 147) ja_C_hindrance_144 rfl ?_ ?_
          · intro h6
            refine q_iconst (pc' := 152) ja_C_hindrance_151 rfl 0 (by decide) ?_
            refine q_ic_eq (pc' := 155) ja_C_hindrance_152 rfl (fun _ => ?_) (fun h => absurd ((by decide : (0 : Int32) = 0)) h)
            exact (k3 h1 h2 h3 h5 h6)
          · intro h7
            refine q_iconst (pc' := 148) ja_C_hindrance_147 rfl 1 (by decide) ?_
            refine q_goto ja_C_hindrance_148 ?_
            refine q_ic_eq (pc' := 155) ja_C_hindrance_152 rfl (fun h => absurd h ((by decide : ¬ (0 : Int32) = 1))) (fun _ => ?_)
            refine q_iconst (pc' := 156) ja_C_hindrance_155 rfl 4 (by decide) ?_
            exact q_iret ja_C_hindrance_156 rfl rfl (k4 h1 h2 h3 h5 h7)
      · intro h8
        refine q_iconst (pc' := 133) ja_C_hindrance_132 rfl 1 (by decide) ?_
        refine q_goto ja_C_hindrance_133 ?_
        refine q_iload_n (pc' := 138) ja_C_hindrance_137 rfl rfl ?_
        refine q_if_eq (pc' := 141) ja_C_hindrance_138 rfl ?_ ?_
        · intro h9
          refine q_iconst (pc' := 148) ja_C_hindrance_147 rfl 1 (by decide) ?_
          refine q_goto ja_C_hindrance_148 ?_
          refine q_ic_eq (pc' := 155) ja_C_hindrance_152 rfl (fun _ => ?_) (fun h => absurd ((by decide : (1 : Int32) = 1)) h)
          exact (k5 h1 h2 h8 h9)
        · intro h10
          refine q_iload_n (pc' := 142) ja_C_hindrance_141 rfl rfl ?_
          refine q_bipush (pc' := 144) ja_C_hindrance_142 rfl 6 (by decide) ?_
          refine q_ic_ne (pc' := 147) ja_C_hindrance_144 rfl ?_ ?_
          · intro h11
            refine q_iconst (pc' := 152) ja_C_hindrance_151 rfl 0 (by decide) ?_
            refine q_ic_eq (pc' := 155) ja_C_hindrance_152 rfl (fun h => absurd h ((by decide : ¬ (1 : Int32) = 0))) (fun _ => ?_)
            refine q_iconst (pc' := 156) ja_C_hindrance_155 rfl 4 (by decide) ?_
            exact q_iret ja_C_hindrance_156 rfl rfl (k6 h1 h2 h8 h10 h11)
          · intro h12
            refine q_iconst (pc' := 148) ja_C_hindrance_147 rfl 1 (by decide) ?_
            refine q_goto ja_C_hindrance_148 ?_
            refine q_ic_eq (pc' := 155) ja_C_hindrance_152 rfl (fun _ => ?_) (fun h => absurd ((by decide : (1 : Int32) = 1)) h)
            exact (k7 h1 h2 h8 h10 h12)
    · intro h13
      refine q_iconst (pc' := 121) ja_C_hindrance_120 rfl 3 (by decide) ?_
      exact q_iret ja_C_hindrance_121 rfl rfl (k8 h1 h13)
  · intro h14
    refine q_iconst (pc' := 107) ja_C_hindrance_106 rfl 2 (by decide) ?_
    exact q_iret ja_C_hindrance_107 rfl rfl (k9 h14)
set_option maxRecDepth 20000 in
theorem t_C_hindrance_157 {G : jv_X} {d : Nat} {B : Option Value → jg_H → Prop} {s : jg_H} (x1 : Int32) (x2 : Int32) (x3 : Int32) (x4 : Int32)
    (k1 : ((s 60 0) - 1) < 0 → q_W G (d + 2) jm_C_hindrance B 221 [some (.ref 0), some (.int x1), some (.int x2), some (.int x3), some (.int x4), some (.int ((s 60 0) - 1)), none] [] s)
    (k2 : ¬ ((s 60 0) - 1) < 0 → ¬ ((s 60 0) - 1) < (s 60 0) → q_W G (d + 2) jm_C_hindrance B 221 [some (.ref 0), some (.int x1), some (.int x2), some (.int x3), some (.int x4), some (.int ((s 60 0) - 1)), none] [] s)
    (k3 : ¬ ((s 60 0) - 1) < 0 → ((s 60 0) - 1) < (s 60 0) → ¬ ((s 60 0) - 1) < (s 60 1) → q_W G (d + 2) jm_C_hindrance B 221 [some (.ref 0), some (.int x1), some (.int x2), some (.int x3), some (.int x4), some (.int ((s 60 0) - 1)), none] [] s)
    (k4 : ¬ ((s 60 0) - 1) < 0 → ((s 60 0) - 1) < (s 60 0) → ((s 60 0) - 1) < (s 60 1) → jv_in ((s 60 0) - 1) 8 = true)
    (k5 : ¬ ((s 60 0) - 1) < 0 → ((s 60 0) - 1) < (s 60 0) → ((s 60 0) - 1) < (s 60 1) → jv_in ((s 60 0) - 1) 8 = true)
    (k6 : ¬ ((s 60 0) - 1) < 0 → ((s 60 0) - 1) < (s 60 0) → ((s 60 0) - 1) < (s 60 1) → q_P G (d + 2) 87 [.ref 0, .int 0, .int (s 61 ((s 60 0) - 1).toNatClampNeg), .int (s 62 ((s 60 0) - 1).toNatClampNeg)] s (fun v t => q_W G (d + 2) jm_C_hindrance B 205 [some (.ref 0), some (.int x1), some (.int x2), some (.int x3), some (.int x4), some (.int ((s 60 0) - 1)), none] (v.toList ++ []) t)) :
    q_W G (d + 2) jm_C_hindrance B 157 [some (.ref 0), some (.int x1), some (.int x2), some (.int x3), some (.int x4), none, none] [] s := by
  refine q_aload_n (pc' := 158) ja_C_hindrance_157 rfl rfl ?_
  refine q_getf (pc' := 161) (v := .ref 60) ja_C_hindrance_158 rfl (by decide) ⟨rfl, by decide⟩ rfl ?_
  refine q_getf (pc' := 164) (v := .int (s 60 0)) ja_C_hindrance_161 rfl (by decide) ⟨rfl, by decide⟩ rfl ?_
  refine q_iconst (pc' := 165) ja_C_hindrance_164 rfl 1 (by decide) ?_
  refine q_isub (pc' := 166) ja_C_hindrance_165 rfl ?_
  refine q_istore (pc' := 168) (ls' := [some (.ref 0), some (.int x1), some (.int x2), some (.int x3), some (.int x4), some (.int ((s 60 0) - 1)), none]) ja_C_hindrance_166 rfl ⟨Nat.le_of_ble_eq_true rfl, rfl⟩ rfl ?_
  refine q_aload_n (pc' := 169) ja_C_hindrance_168 rfl rfl ?_
  refine q_getf (pc' := 172) (v := .ref 60) ja_C_hindrance_169 rfl (by decide) ⟨rfl, by decide⟩ rfl ?_
  refine q_iload (pc' := 174) ja_C_hindrance_172 rfl rfl ?_
  refine q_virt (pc' := 177) (c := 60) (as := [.int ((s 60 0) - 1)]) (r := []) ja_C_hindrance_174 rfl rfl rfl (by decide) ⟨rfl, by decide⟩ ?_
  refine q_in (M := jm_Motions_has) rfl (Nat.le_of_ble_eq_true rfl) (ls := [some (.ref 60), some (.int ((s 60 0) - 1))]) rfl ?_
  refine q_iload_n (pc' := 1) ja_Motions_has_0 rfl rfl ?_
  refine q_if_lt (pc' := 4) ja_Motions_has_1 rfl ?_ ?_
  · intro h1
    refine q_iconst (pc' := 25) ja_Motions_has_24 rfl 0 (by decide) ?_
    refine q_iret ja_Motions_has_25 rfl (by decide) ?_
    show q_W _ _ _ _ 177 [some (.ref 0), some (.int x1), some (.int x2), some (.int x3), some (.int x4), some (.int ((s 60 0) - 1)), none] [.int 0] s
    refine q_if_eq (pc' := 180) ja_C_hindrance_177 rfl (fun _ => ?_) (fun h => absurd ((by decide : (0 : Int32) = 0)) h)
    exact (k1 h1)
  · intro h2
    refine q_iload_n (pc' := 5) ja_Motions_has_4 rfl rfl ?_
    refine q_aload_n (pc' := 6) ja_Motions_has_5 rfl rfl ?_
    refine q_getf (pc' := 9) (v := .int (s 60 0)) ja_Motions_has_6 rfl (by decide) ⟨rfl, by decide⟩ rfl ?_
    refine q_ic_ge (pc' := 12) ja_Motions_has_9 rfl ?_ ?_
    · intro h3
      refine q_iconst (pc' := 25) ja_Motions_has_24 rfl 0 (by decide) ?_
      refine q_iret ja_Motions_has_25 rfl (by decide) ?_
      show q_W _ _ _ _ 177 [some (.ref 0), some (.int x1), some (.int x2), some (.int x3), some (.int x4), some (.int ((s 60 0) - 1)), none] [.int 0] s
      refine q_if_eq (pc' := 180) ja_C_hindrance_177 rfl (fun _ => ?_) (fun h => absurd ((by decide : (0 : Int32) = 0)) h)
      exact (k2 h2 h3)
    · intro h4
      refine q_iload_n (pc' := 13) ja_Motions_has_12 rfl rfl ?_
      refine q_aload_n (pc' := 14) ja_Motions_has_13 rfl rfl ?_
      refine q_getf (pc' := 17) (v := .int (s 60 1)) ja_Motions_has_14 rfl (by decide) ⟨rfl, by decide⟩ rfl ?_
      refine q_ic_ge (pc' := 20) ja_Motions_has_17 rfl ?_ ?_
      · intro h5
        refine q_iconst (pc' := 25) ja_Motions_has_24 rfl 0 (by decide) ?_
        refine q_iret ja_Motions_has_25 rfl (by decide) ?_
        show q_W _ _ _ _ 177 [some (.ref 0), some (.int x1), some (.int x2), some (.int x3), some (.int x4), some (.int ((s 60 0) - 1)), none] [.int 0] s
        refine q_if_eq (pc' := 180) ja_C_hindrance_177 rfl (fun _ => ?_) (fun h => absurd ((by decide : (0 : Int32) = 0)) h)
        exact (k3 h2 h4 h5)
      · intro h6
        refine q_iconst (pc' := 21) ja_Motions_has_20 rfl 1 (by decide) ?_
        refine q_goto ja_Motions_has_21 ?_
        refine q_iret ja_Motions_has_25 rfl (by decide) ?_
        show q_W _ _ _ _ 177 [some (.ref 0), some (.int x1), some (.int x2), some (.int x3), some (.int x4), some (.int ((s 60 0) - 1)), none] [.int 1] s
        refine q_if_eq (pc' := 180) ja_C_hindrance_177 rfl (fun h => absurd h ((by decide : ¬ (1 : Int32) = 0))) (fun _ => ?_)
        refine q_aload_n (pc' := 181) ja_C_hindrance_180 rfl rfl ?_
        refine q_iconst (pc' := 182) ja_C_hindrance_181 rfl 0 (by decide) ?_
        refine q_aload_n (pc' := 183) ja_C_hindrance_182 rfl rfl ?_
        refine q_getf (pc' := 186) (v := .ref 60) ja_C_hindrance_183 rfl (by decide) ⟨rfl, by decide⟩ rfl ?_
        refine q_getf (pc' := 189) (v := .ref 61) ja_C_hindrance_186 rfl (by decide) ⟨rfl, by decide⟩ rfl ?_
        refine q_iload (pc' := 191) ja_C_hindrance_189 rfl rfl ?_
        refine q_iald (pc' := 192) (v := .int (s 61 ((s 60 0) - 1).toNatClampNeg)) ja_C_hindrance_191 rfl (by decide) (l := 8) rfl (k4 h2 h4 h6) rfl ?_
        refine q_aload_n (pc' := 193) ja_C_hindrance_192 rfl rfl ?_
        refine q_getf (pc' := 196) (v := .ref 60) ja_C_hindrance_193 rfl (by decide) ⟨rfl, by decide⟩ rfl ?_
        refine q_getf (pc' := 199) (v := .ref 62) ja_C_hindrance_196 rfl (by decide) ⟨rfl, by decide⟩ rfl ?_
        refine q_iload (pc' := 201) ja_C_hindrance_199 rfl rfl ?_
        refine q_iald (pc' := 202) (v := .int (s 62 ((s 60 0) - 1).toNatClampNeg)) ja_C_hindrance_201 rfl (by decide) (l := 8) rfl (k5 h2 h4 h6) rfl ?_
        refine q_virt (pc' := 205) (c := 0) (as := [.int 0, .int (s 61 ((s 60 0) - 1).toNatClampNeg), .int (s 62 ((s 60 0) - 1).toNatClampNeg)]) (r := []) ja_C_hindrance_202 rfl rfl rfl (by decide) ⟨rfl, by decide⟩ ?_
        exact (k6 h2 h4 h6)
set_option maxRecDepth 20000 in
theorem t_C_hindrance_205 {G : jv_X} {d : Nat} {B : Option Value → jg_H → Prop} {s : jg_H} (x1 : Int32) (x2 : Int32) (x3 : Int32) (x4 : Int32) (x5 : Int32) (y0 : Int32)
    (k1 : q_P G (d + 2) 87 [.ref 0, .int 0, .int x1, .int x2] s (fun v t => q_W G (d + 2) jm_C_hindrance B 214 [some (.ref 0), some (.int x1), some (.int x2), some (.int x3), some (.int x4), some (.int x5), some (.int y0)] (v.toList ++ []) t)) :
    q_W G (d + 2) jm_C_hindrance B 205 [some (.ref 0), some (.int x1), some (.int x2), some (.int x3), some (.int x4), some (.int x5), none] [.int y0] s := by
  refine q_istore (pc' := 207) (ls' := [some (.ref 0), some (.int x1), some (.int x2), some (.int x3), some (.int x4), some (.int x5), some (.int y0)]) ja_C_hindrance_205 rfl ⟨Nat.le_of_ble_eq_true rfl, rfl⟩ rfl ?_
  refine q_aload_n (pc' := 208) ja_C_hindrance_207 rfl rfl ?_
  refine q_iconst (pc' := 209) ja_C_hindrance_208 rfl 0 (by decide) ?_
  refine q_iload_n (pc' := 210) ja_C_hindrance_209 rfl rfl ?_
  refine q_iload_n (pc' := 211) ja_C_hindrance_210 rfl rfl ?_
  refine q_virt (pc' := 214) (c := 0) (as := [.int 0, .int x1, .int x2]) (r := []) ja_C_hindrance_211 rfl rfl rfl (by decide) ⟨rfl, by decide⟩ ?_
  exact k1
set_option maxRecDepth 20000 in
theorem t_C_hindrance_214 {G : jv_X} {d : Nat} {B : Option Value → jg_H → Prop} {s : jg_H} (x1 : Int32) (x2 : Int32) (x3 : Int32) (x4 : Int32) (x5 : Int32) (x6 : Int32) (y0 : Int32)
    (k1 : ¬ y0 ≤ x6 → q_W G (d + 2) jm_C_hindrance B 221 [some (.ref 0), some (.int x1), some (.int x2), some (.int x3), some (.int x4), some (.int x5), some (.int x6)] [] s)
    (k2 : y0 ≤ x6 → B (some (.int 5)) s) :
    q_W G (d + 2) jm_C_hindrance B 214 [some (.ref 0), some (.int x1), some (.int x2), some (.int x3), some (.int x4), some (.int x5), some (.int x6)] [.int y0] s := by
  refine q_iload (pc' := 216) ja_C_hindrance_214 rfl rfl ?_
  refine q_ic_gt (pc' := 219) ja_C_hindrance_216 rfl ?_ ?_
  · intro h1
    exact (k1 h1)
  · intro h2
    refine q_iconst (pc' := 220) ja_C_hindrance_219 rfl 5 (by decide) ?_
    exact q_iret ja_C_hindrance_220 rfl rfl (k2 h2)
set_option maxRecDepth 20000 in
theorem t_C_hindrance_221 {G : jv_X} {d : Nat} {B : Option Value → jg_H → Prop} {s : jg_H} (x1 : Int32) (x2 : Int32) (x3 : Int32) (x4 : Int32) (x5 : Int32) {o6 : Option Value} (ho6 : f_n o6 = true)
    (k1 : q_P G (d + 2) 87 [.ref 0, .int 1, .int x1, .int x2] s (fun v t => q_W G (d + 2) jm_C_hindrance B 228 [some (.ref 0), some (.int x1), some (.int x2), some (.int x3), some (.int x4), some (.int x5), o6] (v.toList ++ []) t)) :
    q_W G (d + 2) jm_C_hindrance B 221 [some (.ref 0), some (.int x1), some (.int x2), some (.int x3), some (.int x4), some (.int x5), o6] [] s := by
  refine q_aload_n (pc' := 222) ja_C_hindrance_221 rfl rfl ?_
  refine q_iconst (pc' := 223) ja_C_hindrance_222 rfl 1 (by decide) ?_
  refine q_iload_n (pc' := 224) ja_C_hindrance_223 rfl rfl ?_
  refine q_iload_n (pc' := 225) ja_C_hindrance_224 rfl rfl ?_
  refine q_virt (pc' := 228) (c := 0) (as := [.int 1, .int x1, .int x2]) (r := []) ja_C_hindrance_225 rfl rfl rfl (by decide) ⟨rfl, by decide⟩ ?_
  exact k1
set_option maxRecDepth 20000 in
theorem t_C_hindrance_228 {G : jv_X} {d : Nat} {B : Option Value → jg_H → Prop} {s : jg_H} (x1 : Int32) (x2 : Int32) (x3 : Int32) (x4 : Int32) (x5 : Int32) {o6 : Option Value} (ho6 : f_n o6 = true) (y0 : Int32)
    (k1 : ¬ y0 = 0 → (s 60 0) < (s 60 1) → B (some (.int 0)) s)
    (k2 : ¬ y0 = 0 → ¬ (s 60 0) < (s 60 1) → B (some (.int 7)) s)
    (k3 : y0 = 0 → B (some (.int 6)) s) :
    q_W G (d + 2) jm_C_hindrance B 228 [some (.ref 0), some (.int x1), some (.int x2), some (.int x3), some (.int x4), some (.int x5), o6] [.int y0] s := by
  refine q_if_ne (pc' := 231) ja_C_hindrance_228 rfl ?_ ?_
  · intro h1
    refine q_aload_n (pc' := 235) ja_C_hindrance_234 rfl rfl ?_
    refine q_getf (pc' := 238) (v := .ref 60) ja_C_hindrance_235 rfl (by decide) ⟨rfl, by decide⟩ rfl ?_
    refine q_virt (pc' := 241) (c := 60) (as := []) (r := []) ja_C_hindrance_238 rfl rfl rfl (by decide) ⟨rfl, by decide⟩ ?_
    refine q_in (M := jm_Motions_isFull) rfl (Nat.le_of_ble_eq_true rfl) (ls := [some (.ref 60)]) rfl ?_
    refine q_aload_n (pc' := 1) ja_Motions_isFull_0 rfl rfl ?_
    refine q_getf (pc' := 4) (v := .int (s 60 0)) ja_Motions_isFull_1 rfl (by decide) ⟨rfl, by decide⟩ rfl ?_
    refine q_aload_n (pc' := 5) ja_Motions_isFull_4 rfl rfl ?_
    refine q_getf (pc' := 8) (v := .int (s 60 1)) ja_Motions_isFull_5 rfl (by decide) ⟨rfl, by decide⟩ rfl ?_
    refine q_ic_lt (pc' := 11) ja_Motions_isFull_8 rfl ?_ ?_
    · intro h2
      refine q_iconst (pc' := 16) ja_Motions_isFull_15 rfl 0 (by decide) ?_
      refine q_iret ja_Motions_isFull_16 rfl (by decide) ?_
      show q_W _ _ _ _ 241 [some (.ref 0), some (.int x1), some (.int x2), some (.int x3), some (.int x4), some (.int x5), o6] [.int 0] s
      refine q_if_eq (pc' := 244) ja_C_hindrance_241 rfl (fun _ => ?_) (fun h => absurd ((by decide : (0 : Int32) = 0)) h)
      refine q_iconst (pc' := 250) ja_C_hindrance_249 rfl 0 (by decide) ?_
      exact q_iret ja_C_hindrance_250 rfl rfl (k1 h1 h2)
    · intro h3
      refine q_iconst (pc' := 12) ja_Motions_isFull_11 rfl 1 (by decide) ?_
      refine q_goto ja_Motions_isFull_12 ?_
      refine q_iret ja_Motions_isFull_16 rfl (by decide) ?_
      show q_W _ _ _ _ 241 [some (.ref 0), some (.int x1), some (.int x2), some (.int x3), some (.int x4), some (.int x5), o6] [.int 1] s
      refine q_if_eq (pc' := 244) ja_C_hindrance_241 rfl (fun h => absurd h ((by decide : ¬ (1 : Int32) = 0))) (fun _ => ?_)
      refine q_bipush (pc' := 246) ja_C_hindrance_244 rfl 7 (by decide) ?_
      refine q_goto ja_C_hindrance_246 ?_
      exact q_iret ja_C_hindrance_250 rfl rfl (k2 h1 h3)
  · intro h4
    refine q_bipush (pc' := 233) ja_C_hindrance_231 rfl 6 (by decide) ?_
    exact q_iret ja_C_hindrance_233 rfl rfl (k3 h4)
set_option maxRecDepth 20000 in
theorem t_C_isAmendment {G : jv_X} {d : Nat} {B : Option Value → jg_H → Prop} {s : jg_H} (a1 : Int32)
    (k1 : a1 < 1 → B (some (.int 0)) s)
    (k2 : ¬ a1 < 1 → ¬ a1 ≤ 3 → B (some (.int 0)) s)
    (k3 : ¬ a1 < 1 → a1 ≤ 3 → B (some (.int 1)) s) :
    q_P G (d + 1) 83 [.int a1] s B := by
  refine q_in (M := jm_C_isAmendment) rfl (Nat.le_of_ble_eq_true rfl) (ls := [some (.int a1)]) rfl ?_
  refine q_iload_n (pc' := 1) ja_C_isAmendment_0 rfl rfl ?_
  refine q_iconst (pc' := 2) ja_C_isAmendment_1 rfl 1 (by decide) ?_
  refine q_ic_lt (pc' := 5) ja_C_isAmendment_2 rfl ?_ ?_
  · intro h1
    refine q_iconst (pc' := 15) ja_C_isAmendment_14 rfl 0 (by decide) ?_
    exact q_iret ja_C_isAmendment_15 rfl (by decide) (k1 h1)
  · intro h2
    refine q_iload_n (pc' := 6) ja_C_isAmendment_5 rfl rfl ?_
    refine q_iconst (pc' := 7) ja_C_isAmendment_6 rfl 3 (by decide) ?_
    refine q_ic_gt (pc' := 10) ja_C_isAmendment_7 rfl ?_ ?_
    · intro h3
      refine q_iconst (pc' := 15) ja_C_isAmendment_14 rfl 0 (by decide) ?_
      exact q_iret ja_C_isAmendment_15 rfl (by decide) (k2 h2 h3)
    · intro h4
      refine q_iconst (pc' := 11) ja_C_isAmendment_10 rfl 1 (by decide) ?_
      refine q_goto ja_C_isAmendment_11 ?_
      exact q_iret ja_C_isAmendment_15 rfl (by decide) (k3 h2 h4)
set_option maxRecDepth 20000 in
theorem t_C_isBill {G : jv_X} {d : Nat} {B : Option Value → jg_H → Prop} {s : jg_H} (a1 : Int32)
    (k1 : a1 < 0 → B (some (.int 0)) s)
    (k2 : ¬ a1 < 0 → ¬ a1 < (s 0 3) → B (some (.int 0)) s)
    (k3 : ¬ a1 < 0 → a1 < (s 0 3) → ¬ a1 < 8 → B (some (.int 0)) s)
    (k4 : ¬ a1 < 0 → a1 < (s 0 3) → a1 < 8 → B (some (.int 1)) s) :
    q_P G (d + 1) 52 [.ref 0, .int a1] s B := by
  refine q_in (M := jm_C_isBill) rfl (Nat.le_of_ble_eq_true rfl) (ls := [some (.ref 0), some (.int a1)]) rfl ?_
  refine q_iload_n (pc' := 1) ja_C_isBill_0 rfl rfl ?_
  refine q_if_lt (pc' := 4) ja_C_isBill_1 rfl ?_ ?_
  · intro h1
    refine q_iconst (pc' := 26) ja_C_isBill_25 rfl 0 (by decide) ?_
    exact q_iret ja_C_isBill_26 rfl (by decide) (k1 h1)
  · intro h2
    refine q_iload_n (pc' := 5) ja_C_isBill_4 rfl rfl ?_
    refine q_aload_n (pc' := 6) ja_C_isBill_5 rfl rfl ?_
    refine q_getf (pc' := 9) (v := .int (s 0 3)) ja_C_isBill_6 rfl (by decide) ⟨rfl, by decide⟩ rfl ?_
    refine q_ic_ge (pc' := 12) ja_C_isBill_9 rfl ?_ ?_
    · intro h3
      refine q_iconst (pc' := 26) ja_C_isBill_25 rfl 0 (by decide) ?_
      exact q_iret ja_C_isBill_26 rfl (by decide) (k2 h2 h3)
    · intro h4
      refine q_iload_n (pc' := 13) ja_C_isBill_12 rfl rfl ?_
      refine q_aload_n (pc' := 14) ja_C_isBill_13 rfl rfl ?_
      refine q_getf (pc' := 17) (v := .ref 32) ja_C_isBill_14 rfl (by decide) ⟨rfl, by decide⟩ rfl ?_
      refine q_alen (pc' := 18) ja_C_isBill_17 rfl (by decide) (kd := 17) (l := 8) rfl (by decide) (v := 8) (by decide) ?_
      refine q_ic_ge (pc' := 21) ja_C_isBill_18 rfl ?_ ?_
      · intro h5
        refine q_iconst (pc' := 26) ja_C_isBill_25 rfl 0 (by decide) ?_
        exact q_iret ja_C_isBill_26 rfl (by decide) (k3 h2 h4 h5)
      · intro h6
        refine q_iconst (pc' := 22) ja_C_isBill_21 rfl 1 (by decide) ?_
        refine q_goto ja_C_isBill_22 ?_
        exact q_iret ja_C_isBill_26 rfl (by decide) (k4 h2 h4 h6)
set_option maxRecDepth 20000 in
theorem t_C_isKind {G : jv_X} {d : Nat} {B : Option Value → jg_H → Prop} {s : jg_H} (a1 : Int32)
    (k1 : a1 < 0 → B (some (.int 0)) s)
    (k2 : ¬ a1 < 0 → ¬ a1 ≤ 6 → B (some (.int 0)) s)
    (k3 : ¬ a1 < 0 → a1 ≤ 6 → B (some (.int 1)) s) :
    q_P G (d + 1) 73 [.int a1] s B := by
  refine q_in (M := jm_C_isKind) rfl (Nat.le_of_ble_eq_true rfl) (ls := [some (.int a1)]) rfl ?_
  refine q_iload_n (pc' := 1) ja_C_isKind_0 rfl rfl ?_
  refine q_if_lt (pc' := 4) ja_C_isKind_1 rfl ?_ ?_
  · intro h1
    refine q_iconst (pc' := 15) ja_C_isKind_14 rfl 0 (by decide) ?_
    exact q_iret ja_C_isKind_15 rfl (by decide) (k1 h1)
  · intro h2
    refine q_iload_n (pc' := 5) ja_C_isKind_4 rfl rfl ?_
    refine q_bipush (pc' := 7) ja_C_isKind_5 rfl 6 (by decide) ?_
    refine q_ic_gt (pc' := 10) ja_C_isKind_7 rfl ?_ ?_
    · intro h3
      refine q_iconst (pc' := 15) ja_C_isKind_14 rfl 0 (by decide) ?_
      exact q_iret ja_C_isKind_15 rfl (by decide) (k2 h2 h3)
    · intro h4
      refine q_iconst (pc' := 11) ja_C_isKind_10 rfl 1 (by decide) ?_
      refine q_goto ja_C_isKind_11 ?_
      exact q_iret ja_C_isKind_15 rfl (by decide) (k3 h2 h4)
set_option maxRecDepth 20000 in
theorem t_C_isMember {G : jv_X} {d : Nat} {B : Option Value → jg_H → Prop} {s : jg_H} (a1 : Int32)
    (k1 : a1 < 0 → B (some (.int 0)) s)
    (k2 : ¬ a1 < 0 → ¬ a1 < (s 0 1) → B (some (.int 0)) s)
    (k3 : ¬ a1 < 0 → a1 < (s 0 1) → ¬ a1 < 15 → B (some (.int 0)) s)
    (k4 : ¬ a1 < 0 → a1 < (s 0 1) → a1 < 15 → B (some (.int 1)) s) :
    q_P G (d + 1) 41 [.ref 0, .int a1] s B := by
  refine q_in (M := jm_C_isMember) rfl (Nat.le_of_ble_eq_true rfl) (ls := [some (.ref 0), some (.int a1)]) rfl ?_
  refine q_iload_n (pc' := 1) ja_C_isMember_0 rfl rfl ?_
  refine q_if_lt (pc' := 4) ja_C_isMember_1 rfl ?_ ?_
  · intro h1
    refine q_iconst (pc' := 26) ja_C_isMember_25 rfl 0 (by decide) ?_
    exact q_iret ja_C_isMember_26 rfl (by decide) (k1 h1)
  · intro h2
    refine q_iload_n (pc' := 5) ja_C_isMember_4 rfl rfl ?_
    refine q_aload_n (pc' := 6) ja_C_isMember_5 rfl rfl ?_
    refine q_getf (pc' := 9) (v := .int (s 0 1)) ja_C_isMember_6 rfl (by decide) ⟨rfl, by decide⟩ rfl ?_
    refine q_ic_ge (pc' := 12) ja_C_isMember_9 rfl ?_ ?_
    · intro h3
      refine q_iconst (pc' := 26) ja_C_isMember_25 rfl 0 (by decide) ?_
      exact q_iret ja_C_isMember_26 rfl (by decide) (k2 h2 h3)
    · intro h4
      refine q_iload_n (pc' := 13) ja_C_isMember_12 rfl rfl ?_
      refine q_aload_n (pc' := 14) ja_C_isMember_13 rfl rfl ?_
      refine q_getf (pc' := 17) (v := .ref 1) ja_C_isMember_14 rfl (by decide) ⟨rfl, by decide⟩ rfl ?_
      refine q_alen (pc' := 18) ja_C_isMember_17 rfl (by decide) (kd := 16) (l := 15) rfl (by decide) (v := 15) (by decide) ?_
      refine q_ic_ge (pc' := 21) ja_C_isMember_18 rfl ?_ ?_
      · intro h5
        refine q_iconst (pc' := 26) ja_C_isMember_25 rfl 0 (by decide) ?_
        exact q_iret ja_C_isMember_26 rfl (by decide) (k3 h2 h4 h5)
      · intro h6
        refine q_iconst (pc' := 22) ja_C_isMember_21 rfl 1 (by decide) ?_
        refine q_goto ja_C_isMember_22 ?_
        exact q_iret ja_C_isMember_26 rfl (by decide) (k4 h2 h4 h6)
set_option maxRecDepth 20000 in
theorem t_C_isText {G : jv_X} {d : Nat} {B : Option Value → jg_H → Prop} {s : jg_H} (a1 : Int32)
    (k1 : a1 < 0 → B (some (.int 0)) s)
    (k2 : ¬ a1 < 0 → ¬ a1 < (s 0 11) → B (some (.int 0)) s)
    (k3 : ¬ a1 < 0 → a1 < (s 0 11) → ¬ a1 < 8 → B (some (.int 0)) s)
    (k4 : ¬ a1 < 0 → a1 < (s 0 11) → a1 < 8 → B (some (.int 1)) s) :
    q_P G (d + 1) 72 [.ref 0, .int a1] s B := by
  refine q_in (M := jm_C_isText) rfl (Nat.le_of_ble_eq_true rfl) (ls := [some (.ref 0), some (.int a1)]) rfl ?_
  refine q_iload_n (pc' := 1) ja_C_isText_0 rfl rfl ?_
  refine q_if_lt (pc' := 4) ja_C_isText_1 rfl ?_ ?_
  · intro h1
    refine q_iconst (pc' := 26) ja_C_isText_25 rfl 0 (by decide) ?_
    exact q_iret ja_C_isText_26 rfl (by decide) (k1 h1)
  · intro h2
    refine q_iload_n (pc' := 5) ja_C_isText_4 rfl rfl ?_
    refine q_aload_n (pc' := 6) ja_C_isText_5 rfl rfl ?_
    refine q_getf (pc' := 9) (v := .int (s 0 11)) ja_C_isText_6 rfl (by decide) ⟨rfl, by decide⟩ rfl ?_
    refine q_ic_ge (pc' := 12) ja_C_isText_9 rfl ?_ ?_
    · intro h3
      refine q_iconst (pc' := 26) ja_C_isText_25 rfl 0 (by decide) ?_
      exact q_iret ja_C_isText_26 rfl (by decide) (k2 h2 h3)
    · intro h4
      refine q_iload_n (pc' := 13) ja_C_isText_12 rfl rfl ?_
      refine q_aload_n (pc' := 14) ja_C_isText_13 rfl rfl ?_
      refine q_getf (pc' := 17) (v := .ref 92) ja_C_isText_14 rfl (by decide) ⟨rfl, by decide⟩ rfl ?_
      refine q_alen (pc' := 18) ja_C_isText_17 rfl (by decide) (kd := 19) (l := 8) rfl (by decide) (v := 8) (by decide) ?_
      refine q_ic_ge (pc' := 21) ja_C_isText_18 rfl ?_ ?_
      · intro h5
        refine q_iconst (pc' := 26) ja_C_isText_25 rfl 0 (by decide) ?_
        exact q_iret ja_C_isText_26 rfl (by decide) (k3 h2 h4 h5)
      · intro h6
        refine q_iconst (pc' := 22) ja_C_isText_21 rfl 1 (by decide) ?_
        refine q_goto ja_C_isText_22 ?_
        exact q_iret ja_C_isText_26 rfl (by decide) (k4 h2 h4 h6)
set_option maxRecDepth 20000 in
theorem t_C_isTray {G : jv_X} {d : Nat} {B : Option Value → jg_H → Prop} {s : jg_H} (a1 : Int32)
    (k1 : a1 < 0 → B (some (.int 0)) s)
    (k2 : ¬ a1 < 0 → ¬ a1 < 4 → B (some (.int 0)) s)
    (k3 : ¬ a1 < 0 → a1 < 4 → B (some (.int 1)) s) :
    q_P G (d + 1) 125 [.int a1] s B := by
  refine q_in (M := jm_C_isTray) rfl (Nat.le_of_ble_eq_true rfl) (ls := [some (.int a1)]) rfl ?_
  refine q_iload_n (pc' := 1) ja_C_isTray_0 rfl rfl ?_
  refine q_if_lt (pc' := 4) ja_C_isTray_1 rfl ?_ ?_
  · intro h1
    refine q_iconst (pc' := 14) ja_C_isTray_13 rfl 0 (by decide) ?_
    exact q_iret ja_C_isTray_14 rfl (by decide) (k1 h1)
  · intro h2
    refine q_iload_n (pc' := 5) ja_C_isTray_4 rfl rfl ?_
    refine q_iconst (pc' := 6) ja_C_isTray_5 rfl 4 (by decide) ?_
    refine q_ic_ge (pc' := 9) ja_C_isTray_6 rfl ?_ ?_
    · intro h3
      refine q_iconst (pc' := 14) ja_C_isTray_13 rfl 0 (by decide) ?_
      exact q_iret ja_C_isTray_14 rfl (by decide) (k2 h2 h3)
    · intro h4
      refine q_iconst (pc' := 10) ja_C_isTray_9 rfl 1 (by decide) ?_
      refine q_goto ja_C_isTray_10 ?_
      exact q_iret ja_C_isTray_14 rfl (by decide) (k3 h2 h4)
set_option maxRecDepth 20000 in
theorem t_C_isUnder {G : jv_X} {d : Nat} {B : Option Value → jg_H → Prop} {s : jg_H} (a1 : Int32) (a2 : Int32)
    (k1 : a1 = a2 → B (some (.int 1)) s)
    (k2 : ¬ a1 = a2 → a2 = 0 → B (some (.int 1)) s)
    (k3 : ¬ a1 = a2 → ¬ a2 = 0 → ¬ a2 = 1 → B (some (.int 0)) s)
    (k4 : ¬ a1 = a2 → ¬ a2 = 0 → a2 = 1 → a1 < 1 → B (some (.int 0)) s)
    (k5 : ¬ a1 = a2 → ¬ a2 = 0 → a2 = 1 → ¬ a1 < 1 → ¬ a1 ≤ 3 → B (some (.int 0)) s)
    (k6 : ¬ a1 = a2 → ¬ a2 = 0 → a2 = 1 → ¬ a1 < 1 → a1 ≤ 3 → B (some (.int 1)) s) :
    q_P G (d + 2) 131 [.int a1, .int a2] s B := by
  refine q_in (M := jm_C_isUnder) rfl (Nat.le_of_ble_eq_true rfl) (ls := [some (.int a1), some (.int a2)]) rfl ?_
  refine q_iload_n (pc' := 1) ja_C_isUnder_0 rfl rfl ?_
  refine q_iload_n (pc' := 2) ja_C_isUnder_1 rfl rfl ?_
  refine q_ic_eq (pc' := 5) ja_C_isUnder_2 rfl ?_ ?_
  · intro h1
    refine q_iconst (pc' := 22) ja_C_isUnder_21 rfl 1 (by decide) ?_
    refine q_goto ja_C_isUnder_22 ?_
    exact q_iret ja_C_isUnder_26 rfl (by decide) (k1 h1)
  · intro h2
    refine q_iload_n (pc' := 6) ja_C_isUnder_5 rfl rfl ?_
    refine q_if_eq (pc' := 9) ja_C_isUnder_6 rfl ?_ ?_
    · intro h3
      refine q_iconst (pc' := 22) ja_C_isUnder_21 rfl 1 (by decide) ?_
      refine q_goto ja_C_isUnder_22 ?_
      exact q_iret ja_C_isUnder_26 rfl (by decide) (k2 h2 h3)
    · intro h4
      refine q_iload_n (pc' := 10) ja_C_isUnder_9 rfl rfl ?_
      refine q_iconst (pc' := 11) ja_C_isUnder_10 rfl 1 (by decide) ?_
      refine q_ic_ne (pc' := 14) ja_C_isUnder_11 rfl ?_ ?_
      · intro h5
        refine q_iconst (pc' := 26) ja_C_isUnder_25 rfl 0 (by decide) ?_
        exact q_iret ja_C_isUnder_26 rfl (by decide) (k3 h2 h4 h5)
      · intro h6
        refine q_iload_n (pc' := 15) ja_C_isUnder_14 rfl rfl ?_
        refine q_stat (pc' := 18) (as := [.int a1]) (r := []) ja_C_isUnder_15 rfl (by decide) rfl rfl ?_
        refine q_in (M := jm_C_isAmendment) rfl (Nat.le_of_ble_eq_true rfl) (ls := [some (.int a1)]) rfl ?_
        refine q_iload_n (pc' := 1) ja_C_isAmendment_0 rfl rfl ?_
        refine q_iconst (pc' := 2) ja_C_isAmendment_1 rfl 1 (by decide) ?_
        refine q_ic_lt (pc' := 5) ja_C_isAmendment_2 rfl ?_ ?_
        · intro h7
          refine q_iconst (pc' := 15) ja_C_isAmendment_14 rfl 0 (by decide) ?_
          refine q_iret ja_C_isAmendment_15 rfl (by decide) ?_
          show q_W _ _ _ _ 18 [some (.int a1), some (.int a2)] [.int 0] s
          refine q_if_eq (pc' := 21) ja_C_isUnder_18 rfl (fun _ => ?_) (fun h => absurd ((by decide : (0 : Int32) = 0)) h)
          refine q_iconst (pc' := 26) ja_C_isUnder_25 rfl 0 (by decide) ?_
          exact q_iret ja_C_isUnder_26 rfl (by decide) (k4 h2 h4 h6 h7)
        · intro h8
          refine q_iload_n (pc' := 6) ja_C_isAmendment_5 rfl rfl ?_
          refine q_iconst (pc' := 7) ja_C_isAmendment_6 rfl 3 (by decide) ?_
          refine q_ic_gt (pc' := 10) ja_C_isAmendment_7 rfl ?_ ?_
          · intro h9
            refine q_iconst (pc' := 15) ja_C_isAmendment_14 rfl 0 (by decide) ?_
            refine q_iret ja_C_isAmendment_15 rfl (by decide) ?_
            show q_W _ _ _ _ 18 [some (.int a1), some (.int a2)] [.int 0] s
            refine q_if_eq (pc' := 21) ja_C_isUnder_18 rfl (fun _ => ?_) (fun h => absurd ((by decide : (0 : Int32) = 0)) h)
            refine q_iconst (pc' := 26) ja_C_isUnder_25 rfl 0 (by decide) ?_
            exact q_iret ja_C_isUnder_26 rfl (by decide) (k5 h2 h4 h6 h8 h9)
          · intro h10
            refine q_iconst (pc' := 11) ja_C_isAmendment_10 rfl 1 (by decide) ?_
            refine q_goto ja_C_isAmendment_11 ?_
            refine q_iret ja_C_isAmendment_15 rfl (by decide) ?_
            show q_W _ _ _ _ 18 [some (.int a1), some (.int a2)] [.int 1] s
            refine q_if_eq (pc' := 21) ja_C_isUnder_18 rfl (fun h => absurd h ((by decide : ¬ (1 : Int32) = 0))) (fun _ => ?_)
            refine q_iconst (pc' := 22) ja_C_isUnder_21 rfl 1 (by decide) ?_
            refine q_goto ja_C_isUnder_22 ?_
            exact q_iret ja_C_isUnder_26 rfl (by decide) (k6 h2 h4 h6 h8 h10)
set_option maxRecDepth 20000 in
theorem t_C_isWord {G : jv_X} {d : Nat} {B : Option Value → jg_H → Prop} {s : jg_H} (a1 : Int32)
    (k1 : a1 < 1 → B (some (.int 0)) s)
    (k2 : ¬ a1 < 1 → ¬ a1 ≤ 60 → B (some (.int 0)) s)
    (k3 : ¬ a1 < 1 → a1 ≤ 60 → B (some (.int 1)) s) :
    q_P G (d + 1) 42 [.int a1] s B := by
  refine q_in (M := jm_C_isWord) rfl (Nat.le_of_ble_eq_true rfl) (ls := [some (.int a1)]) rfl ?_
  refine q_iload_n (pc' := 1) ja_C_isWord_0 rfl rfl ?_
  refine q_iconst (pc' := 2) ja_C_isWord_1 rfl 1 (by decide) ?_
  refine q_ic_lt (pc' := 5) ja_C_isWord_2 rfl ?_ ?_
  · intro h1
    refine q_iconst (pc' := 16) ja_C_isWord_15 rfl 0 (by decide) ?_
    exact q_iret ja_C_isWord_16 rfl (by decide) (k1 h1)
  · intro h2
    refine q_iload_n (pc' := 6) ja_C_isWord_5 rfl rfl ?_
    refine q_bipush (pc' := 8) ja_C_isWord_6 rfl 60 (by decide) ?_
    refine q_ic_gt (pc' := 11) ja_C_isWord_8 rfl ?_ ?_
    · intro h3
      refine q_iconst (pc' := 16) ja_C_isWord_15 rfl 0 (by decide) ?_
      exact q_iret ja_C_isWord_16 rfl (by decide) (k2 h2 h3)
    · intro h4
      refine q_iconst (pc' := 12) ja_C_isWord_11 rfl 1 (by decide) ?_
      refine q_goto ja_C_isWord_12 ?_
      exact q_iret ja_C_isWord_16 rfl (by decide) (k3 h2 h4)
set_option maxRecDepth 20000 in
theorem t_C_leaveFloor {G : jv_X} {d : Nat} {B : Option Value → jg_H → Prop} {s : jg_H} (a1 : Int32)
    (k1 : (s 0 6) < 0 → B none s)
    (k2 : ¬ (s 0 6) < 0 → ¬ (s 0 6) < (s 0 3) → B none s)
    (k3 : ¬ (s 0 6) < 0 → (s 0 6) < (s 0 3) → ¬ (s 0 6) < 8 → B none s)
    (k4 : ¬ (s 0 6) < 0 → (s 0 6) < (s 0 3) → (s 0 6) < 8 → ∀ s1 : jg_H, s1 = jg_up s (33 + 3 * (s 0 6).toNatClampNeg) 0 a1 → ¬ a1 = 0 → ∀ s2 : jg_H, s2 = jg_up s1 0 6 (-1) → ∀ s3 : jg_H, s3 = jg_up s2 60 0 0 → ∀ s4 : jg_H, s4 = jg_up s3 66 0 0 → B none s4)
    (k5 : ¬ (s 0 6) < 0 → (s 0 6) < (s 0 3) → (s 0 6) < 8 → ∀ s1 : jg_H, s1 = jg_up s (33 + 3 * (s 0 6).toNatClampNeg) 0 a1 → a1 = 0 → jv_in (s1 0 6) 8 = true)
    (k6 : ¬ (s 0 6) < 0 → (s 0 6) < (s 0 3) → (s 0 6) < 8 → ∀ s1 : jg_H, s1 = jg_up s (33 + 3 * (s 0 6).toNatClampNeg) 0 a1 → a1 = 0 → ∀ s5 : jg_H, s5 = jg_up s1 (33 + 3 * (s1 0 6).toNatClampNeg) 1 0 → ∀ s6 : jg_H, s6 = jg_up s5 0 6 (-1) → ∀ s7 : jg_H, s7 = jg_up s6 60 0 0 → ∀ s8 : jg_H, s8 = jg_up s7 66 0 0 → B none s8) :
    q_P G (d + 2) 98 [.ref 0, .int a1] s B := by
  refine q_in (M := jm_C_leaveFloor) rfl (Nat.le_of_ble_eq_true rfl) (ls := [some (.ref 0), some (.int a1)]) rfl ?_
  refine q_aload_n (pc' := 1) ja_C_leaveFloor_0 rfl rfl ?_
  refine q_aload_n (pc' := 2) ja_C_leaveFloor_1 rfl rfl ?_
  refine q_getf (pc' := 5) (v := .int (s 0 6)) ja_C_leaveFloor_2 rfl (by decide) ⟨rfl, by decide⟩ rfl ?_
  refine q_virt (pc' := 8) (c := 0) (as := [.int (s 0 6)]) (r := []) ja_C_leaveFloor_5 rfl rfl rfl (by decide) ⟨rfl, by decide⟩ ?_
  refine q_in (M := jm_C_isBill) rfl (Nat.le_of_ble_eq_true rfl) (ls := [some (.ref 0), some (.int (s 0 6))]) rfl ?_
  refine q_iload_n (pc' := 1) ja_C_isBill_0 rfl rfl ?_
  refine q_if_lt (pc' := 4) ja_C_isBill_1 rfl ?_ ?_
  · intro h1
    refine q_iconst (pc' := 26) ja_C_isBill_25 rfl 0 (by decide) ?_
    refine q_iret ja_C_isBill_26 rfl (by decide) ?_
    show q_W _ _ _ _ 8 [some (.ref 0), some (.int a1)] [.int 0] s
    refine q_if_ne (pc' := 11) ja_C_leaveFloor_8 rfl (fun h => absurd ((by decide : (0 : Int32) = 0)) h) (fun _ => ?_)
    exact q_vret ja_C_leaveFloor_11 rfl (k1 h1)
  · intro h2
    refine q_iload_n (pc' := 5) ja_C_isBill_4 rfl rfl ?_
    refine q_aload_n (pc' := 6) ja_C_isBill_5 rfl rfl ?_
    refine q_getf (pc' := 9) (v := .int (s 0 3)) ja_C_isBill_6 rfl (by decide) ⟨rfl, by decide⟩ rfl ?_
    refine q_ic_ge (pc' := 12) ja_C_isBill_9 rfl ?_ ?_
    · intro h3
      refine q_iconst (pc' := 26) ja_C_isBill_25 rfl 0 (by decide) ?_
      refine q_iret ja_C_isBill_26 rfl (by decide) ?_
      show q_W _ _ _ _ 8 [some (.ref 0), some (.int a1)] [.int 0] s
      refine q_if_ne (pc' := 11) ja_C_leaveFloor_8 rfl (fun h => absurd ((by decide : (0 : Int32) = 0)) h) (fun _ => ?_)
      exact q_vret ja_C_leaveFloor_11 rfl (k2 h2 h3)
    · intro h4
      refine q_iload_n (pc' := 13) ja_C_isBill_12 rfl rfl ?_
      refine q_aload_n (pc' := 14) ja_C_isBill_13 rfl rfl ?_
      refine q_getf (pc' := 17) (v := .ref 32) ja_C_isBill_14 rfl (by decide) ⟨rfl, by decide⟩ rfl ?_
      refine q_alen (pc' := 18) ja_C_isBill_17 rfl (by decide) (kd := 17) (l := 8) rfl (by decide) (v := 8) (by decide) ?_
      refine q_ic_ge (pc' := 21) ja_C_isBill_18 rfl ?_ ?_
      · intro h5
        refine q_iconst (pc' := 26) ja_C_isBill_25 rfl 0 (by decide) ?_
        refine q_iret ja_C_isBill_26 rfl (by decide) ?_
        show q_W _ _ _ _ 8 [some (.ref 0), some (.int a1)] [.int 0] s
        refine q_if_ne (pc' := 11) ja_C_leaveFloor_8 rfl (fun h => absurd ((by decide : (0 : Int32) = 0)) h) (fun _ => ?_)
        exact q_vret ja_C_leaveFloor_11 rfl (k3 h2 h4 h5)
      · intro h6
        refine q_iconst (pc' := 22) ja_C_isBill_21 rfl 1 (by decide) ?_
        refine q_goto ja_C_isBill_22 ?_
        refine q_iret ja_C_isBill_26 rfl (by decide) ?_
        show q_W _ _ _ _ 8 [some (.ref 0), some (.int a1)] [.int 1] s
        refine q_if_ne (pc' := 11) ja_C_leaveFloor_8 rfl (fun _ => ?_) (fun h => absurd h ((by decide : ¬ (1 : Int32) = 0)))
        refine q_aload_n (pc' := 13) ja_C_leaveFloor_12 rfl rfl ?_
        refine q_getf (pc' := 16) (v := .ref 32) ja_C_leaveFloor_13 rfl (by decide) ⟨rfl, by decide⟩ rfl ?_
        refine q_aload_n (pc' := 17) ja_C_leaveFloor_16 rfl rfl ?_
        refine q_getf (pc' := 20) (v := .int (s 0 6)) ja_C_leaveFloor_17 rfl (by decide) ⟨rfl, by decide⟩ rfl ?_
        refine q_aald (pc' := 21) (v := .ref (33 + 3 * (s 0 6).toNatClampNeg)) ja_C_leaveFloor_20 rfl (by decide) (kd := 17) (l := 8) rfl (by decide) (q_inr (l := 8) (by decide) h2 h6) (f_A32 (f_in (q_inr (l := 8) (by decide) h2 h6))) ?_
        refine q_iload_n (pc' := 22) ja_C_leaveFloor_21 rfl rfl ?_
        refine q_putf (pc' := 25) ja_C_leaveFloor_22 rfl (f_1_c (f_m32 (f_in (q_inr (l := 8) (by decide) h2 h6)))) (by rw [f_1_k (f_m32 (f_in (q_inr (l := 8) (by decide) h2 h6)))]) rfl (by rw [f_1_k (f_m32 (f_in (q_inr (l := 8) (by decide) h2 h6)))]; rfl) ?_
        intro s1 e1
        refine q_iload_n (pc' := 26) ja_C_leaveFloor_25 rfl rfl ?_
        refine q_if_ne (pc' := 29) ja_C_leaveFloor_26 rfl ?_ ?_
        · intro h7
          refine q_aload_n (pc' := 43) ja_C_leaveFloor_42 rfl rfl ?_
          refine q_iconst (pc' := 44) ja_C_leaveFloor_43 rfl (-1) (by decide) ?_
          refine q_putf (pc' := 47) ja_C_leaveFloor_44 rfl (by decide) rfl rfl rfl ?_
          intro s2 e2
          refine q_aload_n (pc' := 48) ja_C_leaveFloor_47 rfl rfl ?_
          refine q_getf (pc' := 51) (v := .ref 60) ja_C_leaveFloor_48 rfl (by decide) ⟨rfl, by decide⟩ rfl ?_
          refine q_iconst (pc' := 52) ja_C_leaveFloor_51 rfl 0 (by decide) ?_
          refine q_putf (pc' := 55) ja_C_leaveFloor_52 rfl (by decide) rfl rfl rfl ?_
          intro s3 e3
          refine q_aload_n (pc' := 56) ja_C_leaveFloor_55 rfl rfl ?_
          refine q_getf (pc' := 59) (v := .ref 65) ja_C_leaveFloor_56 rfl (by decide) ⟨rfl, by decide⟩ rfl ?_
          refine q_getf (pc' := 62) (v := .ref 66) ja_C_leaveFloor_59 rfl (by decide) ⟨rfl, by decide⟩ rfl ?_
          refine q_iconst (pc' := 63) ja_C_leaveFloor_62 rfl 0 (by decide) ?_
          refine q_putf (pc' := 66) ja_C_leaveFloor_63 rfl (by decide) rfl rfl rfl ?_
          intro s4 e4
          exact q_vret ja_C_leaveFloor_66 rfl (k4 h2 h4 h6 s1 e1 h7 s2 e2 s3 e3 s4 e4)
        · intro h8
          refine q_aload_n (pc' := 30) ja_C_leaveFloor_29 rfl rfl ?_
          refine q_getf (pc' := 33) (v := .ref 32) ja_C_leaveFloor_30 rfl (by decide) ⟨rfl, by decide⟩ rfl ?_
          refine q_aload_n (pc' := 34) ja_C_leaveFloor_33 rfl rfl ?_
          refine q_getf (pc' := 37) (v := .int (s1 0 6)) ja_C_leaveFloor_34 rfl (by decide) ⟨rfl, by decide⟩ rfl ?_
          refine q_aald (pc' := 38) (v := .ref (33 + 3 * (s1 0 6).toNatClampNeg)) ja_C_leaveFloor_37 rfl (by decide) (kd := 17) (l := 8) rfl (by decide) (k5 h2 h4 h6 s1 e1 h8) (f_A32 (f_in (k5 h2 h4 h6 s1 e1 h8))) ?_
          refine q_iconst (pc' := 39) ja_C_leaveFloor_38 rfl 0 (by decide) ?_
          refine q_putf (pc' := 42) ja_C_leaveFloor_39 rfl (f_1_c (f_m32 (f_in (k5 h2 h4 h6 s1 e1 h8)))) (by rw [f_1_k (f_m32 (f_in (k5 h2 h4 h6 s1 e1 h8)))]) rfl (by rw [f_1_k (f_m32 (f_in (k5 h2 h4 h6 s1 e1 h8)))]; rfl) ?_
          intro s5 e5
          refine q_aload_n (pc' := 43) ja_C_leaveFloor_42 rfl rfl ?_
          refine q_iconst (pc' := 44) ja_C_leaveFloor_43 rfl (-1) (by decide) ?_
          refine q_putf (pc' := 47) ja_C_leaveFloor_44 rfl (by decide) rfl rfl rfl ?_
          intro s6 e6
          refine q_aload_n (pc' := 48) ja_C_leaveFloor_47 rfl rfl ?_
          refine q_getf (pc' := 51) (v := .ref 60) ja_C_leaveFloor_48 rfl (by decide) ⟨rfl, by decide⟩ rfl ?_
          refine q_iconst (pc' := 52) ja_C_leaveFloor_51 rfl 0 (by decide) ?_
          refine q_putf (pc' := 55) ja_C_leaveFloor_52 rfl (by decide) rfl rfl rfl ?_
          intro s7 e7
          refine q_aload_n (pc' := 56) ja_C_leaveFloor_55 rfl rfl ?_
          refine q_getf (pc' := 59) (v := .ref 65) ja_C_leaveFloor_56 rfl (by decide) ⟨rfl, by decide⟩ rfl ?_
          refine q_getf (pc' := 62) (v := .ref 66) ja_C_leaveFloor_59 rfl (by decide) ⟨rfl, by decide⟩ rfl ?_
          refine q_iconst (pc' := 63) ja_C_leaveFloor_62 rfl 0 (by decide) ?_
          refine q_putf (pc' := 66) ja_C_leaveFloor_63 rfl (by decide) rfl rfl rfl ?_
          intro s8 e8
          exact q_vret ja_C_leaveFloor_66 rfl (k6 h2 h4 h6 s1 e1 h8 s5 e5 s6 e6 s7 e7 s8 e8)
set_option maxRecDepth 20000 in
theorem t_C_like {G : jv_X} {d : Nat} {B : Option Value → jg_H → Prop} {s : jg_H} (a1 : Int32) (a2 : Int32) (a3 : Int32)
    (k1 : a1 < 0 → B (some (.int (-100))) s)
    (k2 : ¬ a1 < 0 → ¬ a1 < (s 0 1) → B (some (.int (-100))) s)
    (k3 : ¬ a1 < 0 → a1 < (s 0 1) → ¬ a1 < 15 → B (some (.int (-100))) s)
    (k4 : ¬ a1 < 0 → a1 < (s 0 1) → a1 < 15 → a2 < 1 → B (some (.int (-100))) s)
    (k5 : ¬ a1 < 0 → a1 < (s 0 1) → a1 < 15 → ¬ a2 < 1 → ¬ a2 ≤ 60 → B (some (.int (-100))) s)
    (k6 : ¬ a1 < 0 → a1 < (s 0 1) → a1 < 15 → ¬ a2 < 1 → a2 ≤ 60 → a3 < (-9) → B (some (.int (-100))) s)
    (k7 : ¬ a1 < 0 → a1 < (s 0 1) → a1 < 15 → ¬ a2 < 1 → a2 ≤ 60 → ¬ a3 < (-9) → a3 ≤ 9 → a2 < 0 → B (some (.int 0)) s)
    (k8 : ¬ a1 < 0 → a1 < (s 0 1) → a1 < 15 → ¬ a2 < 1 → a2 ≤ 60 → ¬ a3 < (-9) → a3 ≤ 9 → ¬ a2 < 0 → ¬ a2 < 61 → B (some (.int 0)) s)
    (k9 : ¬ a1 < 0 → a1 < (s 0 1) → a1 < 15 → ¬ a2 < 1 → a2 ≤ 60 → ¬ a3 < (-9) → a3 ≤ 9 → ¬ a2 < 0 → a2 < 61 → ∀ s1 : jg_H, s1 = jg_up s ((2 + 2 * a1.toNatClampNeg) + 1) a2.toNatClampNeg a3 → B (some (.int (s ((2 + 2 * a1.toNatClampNeg) + 1) a2.toNatClampNeg))) s1)
    (k10 : ¬ a1 < 0 → a1 < (s 0 1) → a1 < 15 → ¬ a2 < 1 → a2 ≤ 60 → ¬ a3 < (-9) → ¬ a3 ≤ 9 → B (some (.int (-100))) s) :
    q_P G (d + 3) 40 [.ref 0, .int a1, .int a2, .int a3] s B := by
  refine q_in (M := jm_C_like) rfl (Nat.le_of_ble_eq_true rfl) (ls := [some (.ref 0), some (.int a1), some (.int a2), some (.int a3)]) rfl ?_
  refine q_aload_n (pc' := 1) ja_C_like_0 rfl rfl ?_
  refine q_iload_n (pc' := 2) ja_C_like_1 rfl rfl ?_
  refine q_virt (pc' := 5) (c := 0) (as := [.int a1]) (r := []) ja_C_like_2 rfl rfl rfl (by decide) ⟨rfl, by decide⟩ ?_
  refine q_in (M := jm_C_isMember) rfl (Nat.le_of_ble_eq_true rfl) (ls := [some (.ref 0), some (.int a1)]) rfl ?_
  refine q_iload_n (pc' := 1) ja_C_isMember_0 rfl rfl ?_
  refine q_if_lt (pc' := 4) ja_C_isMember_1 rfl ?_ ?_
  · intro h1
    refine q_iconst (pc' := 26) ja_C_isMember_25 rfl 0 (by decide) ?_
    refine q_iret ja_C_isMember_26 rfl (by decide) ?_
    show q_W _ _ _ _ 5 [some (.ref 0), some (.int a1), some (.int a2), some (.int a3)] [.int 0] s
    refine q_if_eq (pc' := 8) ja_C_like_5 rfl (fun _ => ?_) (fun h => absurd ((by decide : (0 : Int32) = 0)) h)
    refine q_bipush (pc' := 29) ja_C_like_27 rfl (-100) (by decide) ?_
    exact q_iret ja_C_like_29 rfl rfl (k1 h1)
  · intro h2
    refine q_iload_n (pc' := 5) ja_C_isMember_4 rfl rfl ?_
    refine q_aload_n (pc' := 6) ja_C_isMember_5 rfl rfl ?_
    refine q_getf (pc' := 9) (v := .int (s 0 1)) ja_C_isMember_6 rfl (by decide) ⟨rfl, by decide⟩ rfl ?_
    refine q_ic_ge (pc' := 12) ja_C_isMember_9 rfl ?_ ?_
    · intro h3
      refine q_iconst (pc' := 26) ja_C_isMember_25 rfl 0 (by decide) ?_
      refine q_iret ja_C_isMember_26 rfl (by decide) ?_
      show q_W _ _ _ _ 5 [some (.ref 0), some (.int a1), some (.int a2), some (.int a3)] [.int 0] s
      refine q_if_eq (pc' := 8) ja_C_like_5 rfl (fun _ => ?_) (fun h => absurd ((by decide : (0 : Int32) = 0)) h)
      refine q_bipush (pc' := 29) ja_C_like_27 rfl (-100) (by decide) ?_
      exact q_iret ja_C_like_29 rfl rfl (k2 h2 h3)
    · intro h4
      refine q_iload_n (pc' := 13) ja_C_isMember_12 rfl rfl ?_
      refine q_aload_n (pc' := 14) ja_C_isMember_13 rfl rfl ?_
      refine q_getf (pc' := 17) (v := .ref 1) ja_C_isMember_14 rfl (by decide) ⟨rfl, by decide⟩ rfl ?_
      refine q_alen (pc' := 18) ja_C_isMember_17 rfl (by decide) (kd := 16) (l := 15) rfl (by decide) (v := 15) (by decide) ?_
      refine q_ic_ge (pc' := 21) ja_C_isMember_18 rfl ?_ ?_
      · intro h5
        refine q_iconst (pc' := 26) ja_C_isMember_25 rfl 0 (by decide) ?_
        refine q_iret ja_C_isMember_26 rfl (by decide) ?_
        show q_W _ _ _ _ 5 [some (.ref 0), some (.int a1), some (.int a2), some (.int a3)] [.int 0] s
        refine q_if_eq (pc' := 8) ja_C_like_5 rfl (fun _ => ?_) (fun h => absurd ((by decide : (0 : Int32) = 0)) h)
        refine q_bipush (pc' := 29) ja_C_like_27 rfl (-100) (by decide) ?_
        exact q_iret ja_C_like_29 rfl rfl (k3 h2 h4 h5)
      · intro h6
        refine q_iconst (pc' := 22) ja_C_isMember_21 rfl 1 (by decide) ?_
        refine q_goto ja_C_isMember_22 ?_
        refine q_iret ja_C_isMember_26 rfl (by decide) ?_
        show q_W _ _ _ _ 5 [some (.ref 0), some (.int a1), some (.int a2), some (.int a3)] [.int 1] s
        refine q_if_eq (pc' := 8) ja_C_like_5 rfl (fun h => absurd h ((by decide : ¬ (1 : Int32) = 0))) (fun _ => ?_)
        refine q_iload_n (pc' := 9) ja_C_like_8 rfl rfl ?_
        refine q_stat (pc' := 12) (as := [.int a2]) (r := []) ja_C_like_9 rfl (by decide) rfl rfl ?_
        refine q_in (M := jm_C_isWord) rfl (Nat.le_of_ble_eq_true rfl) (ls := [some (.int a2)]) rfl ?_
        refine q_iload_n (pc' := 1) ja_C_isWord_0 rfl rfl ?_
        refine q_iconst (pc' := 2) ja_C_isWord_1 rfl 1 (by decide) ?_
        refine q_ic_lt (pc' := 5) ja_C_isWord_2 rfl ?_ ?_
        · intro h7
          refine q_iconst (pc' := 16) ja_C_isWord_15 rfl 0 (by decide) ?_
          refine q_iret ja_C_isWord_16 rfl (by decide) ?_
          show q_W _ _ _ _ 12 [some (.ref 0), some (.int a1), some (.int a2), some (.int a3)] [.int 0] s
          refine q_if_eq (pc' := 15) ja_C_like_12 rfl (fun _ => ?_) (fun h => absurd ((by decide : (0 : Int32) = 0)) h)
          refine q_bipush (pc' := 29) ja_C_like_27 rfl (-100) (by decide) ?_
          exact q_iret ja_C_like_29 rfl rfl (k4 h2 h4 h6 h7)
        · intro h8
          refine q_iload_n (pc' := 6) ja_C_isWord_5 rfl rfl ?_
          refine q_bipush (pc' := 8) ja_C_isWord_6 rfl 60 (by decide) ?_
          refine q_ic_gt (pc' := 11) ja_C_isWord_8 rfl ?_ ?_
          · intro h9
            refine q_iconst (pc' := 16) ja_C_isWord_15 rfl 0 (by decide) ?_
            refine q_iret ja_C_isWord_16 rfl (by decide) ?_
            show q_W _ _ _ _ 12 [some (.ref 0), some (.int a1), some (.int a2), some (.int a3)] [.int 0] s
            refine q_if_eq (pc' := 15) ja_C_like_12 rfl (fun _ => ?_) (fun h => absurd ((by decide : (0 : Int32) = 0)) h)
            refine q_bipush (pc' := 29) ja_C_like_27 rfl (-100) (by decide) ?_
            exact q_iret ja_C_like_29 rfl rfl (k5 h2 h4 h6 h8 h9)
          · intro h10
            refine q_iconst (pc' := 12) ja_C_isWord_11 rfl 1 (by decide) ?_
            refine q_goto ja_C_isWord_12 ?_
            refine q_iret ja_C_isWord_16 rfl (by decide) ?_
            show q_W _ _ _ _ 12 [some (.ref 0), some (.int a1), some (.int a2), some (.int a3)] [.int 1] s
            refine q_if_eq (pc' := 15) ja_C_like_12 rfl (fun h => absurd h ((by decide : ¬ (1 : Int32) = 0))) (fun _ => ?_)
            refine q_iload_n (pc' := 16) ja_C_like_15 rfl rfl ?_
            refine q_bipush (pc' := 18) ja_C_like_16 rfl (-9) (by decide) ?_
            refine q_ic_lt (pc' := 21) ja_C_like_18 rfl ?_ ?_
            · intro h11
              refine q_bipush (pc' := 29) ja_C_like_27 rfl (-100) (by decide) ?_
              exact q_iret ja_C_like_29 rfl rfl (k6 h2 h4 h6 h8 h10 h11)
            · intro h12
              refine q_iload_n (pc' := 22) ja_C_like_21 rfl rfl ?_
              refine q_bipush (pc' := 24) ja_C_like_22 rfl 9 (by decide) ?_
              refine q_ic_le (pc' := 27) ja_C_like_24 rfl ?_ ?_
              · intro h13
                refine q_aload_n (pc' := 31) ja_C_like_30 rfl rfl ?_
                refine q_getf (pc' := 34) (v := .ref 1) ja_C_like_31 rfl (by decide) ⟨rfl, by decide⟩ rfl ?_
                refine q_iload_n (pc' := 35) ja_C_like_34 rfl rfl ?_
                refine q_aald (pc' := 36) (v := .ref (2 + 2 * a1.toNatClampNeg)) ja_C_like_35 rfl (by decide) (kd := 16) (l := 15) rfl (by decide) (q_inr (l := 15) (by decide) h2 h6) (f_A1 (f_in (q_inr (l := 15) (by decide) h2 h6))) ?_
                refine q_iload_n (pc' := 37) ja_C_like_36 rfl rfl ?_
                refine q_iload_n (pc' := 38) ja_C_like_37 rfl rfl ?_
                refine q_virt (pc' := 41) (c := (2 + 2 * a1.toNatClampNeg)) (as := [.int a2, .int a3]) (r := []) ja_C_like_38 rfl rfl rfl (f_5_c (f_m1 (f_in (q_inr (l := 15) (by decide) h2 h6)))) ⟨by rw [f_5_k (f_m1 (f_in (q_inr (l := 15) (by decide) h2 h6)))], by decide⟩ ?_
                refine q_in (M := jm_Member_setLiking) rfl (Nat.le_of_ble_eq_true rfl) (ls := [some (.ref (2 + 2 * a1.toNatClampNeg)), some (.int a2), some (.int a3), none]) rfl ?_
                refine q_aload_n (pc' := 1) ja_Member_setLiking_0 rfl rfl ?_
                refine q_iload_n (pc' := 2) ja_Member_setLiking_1 rfl rfl ?_
                refine q_virt (pc' := 5) (c := (2 + 2 * a1.toNatClampNeg)) (as := [.int a2]) (r := []) ja_Member_setLiking_2 rfl rfl rfl (f_5_c (f_m1 (f_in (q_inr (l := 15) (by decide) h2 h6)))) ⟨by rw [f_5_k (f_m1 (f_in (q_inr (l := 15) (by decide) h2 h6)))], by decide⟩ ?_
                refine q_in (M := jm_Member_liking) rfl (Nat.le_of_ble_eq_true rfl) (ls := [some (.ref (2 + 2 * a1.toNatClampNeg)), some (.int a2)]) rfl ?_
                refine q_iload_n (pc' := 1) ja_Member_liking_0 rfl rfl ?_
                refine q_if_lt (pc' := 4) ja_Member_liking_1 rfl ?_ ?_
                · intro h14
                  refine q_iconst (pc' := 23) ja_Member_liking_22 rfl 0 (by decide) ?_
                  refine q_iret ja_Member_liking_23 rfl rfl ?_
                  show q_W _ _ _ _ 5 [some (.ref (2 + 2 * a1.toNatClampNeg)), some (.int a2), some (.int a3), none] [.int 0] s
                  refine q_istore_n (pc' := 6) (ls' := [some (.ref (2 + 2 * a1.toNatClampNeg)), some (.int a2), some (.int a3), some (.int 0)]) ja_Member_setLiking_5 rfl ⟨Nat.le_of_ble_eq_true rfl, rfl⟩ rfl ?_
                  refine q_iload_n (pc' := 7) ja_Member_setLiking_6 rfl rfl ?_
                  refine q_if_lt (pc' := 10) ja_Member_setLiking_7 rfl (fun _ => ?_) (fun h => absurd (h14) h)
                  refine q_iload_n (pc' := 27) ja_Member_setLiking_26 rfl rfl ?_
                  refine q_iret ja_Member_setLiking_27 rfl rfl ?_
                  show q_W _ _ _ _ 41 [some (.ref 0), some (.int a1), some (.int a2), some (.int a3)] [.int 0] s
                  exact q_iret ja_C_like_41 rfl rfl (k7 h2 h4 h6 h8 h10 h12 h13 h14)
                · intro h15
                  refine q_iload_n (pc' := 5) ja_Member_liking_4 rfl rfl ?_
                  refine q_aload_n (pc' := 6) ja_Member_liking_5 rfl rfl ?_
                  refine q_getf (pc' := 9) (v := .ref ((2 + 2 * a1.toNatClampNeg) + 1)) ja_Member_liking_6 rfl (f_5_c (f_m1 (f_in (q_inr (l := 15) (by decide) h2 h6)))) ⟨by rw [f_5_k (f_m1 (f_in (q_inr (l := 15) (by decide) h2 h6)))], by decide⟩ (f_5_g4 (f_m1 (f_in (q_inr (l := 15) (by decide) h2 h6)))) ?_
                  refine q_alen (pc' := 10) ja_Member_liking_9 rfl (f_a_c (f_5_s4 (f_m1 (f_in (q_inr (l := 15) (by decide) h2 h6))))) (kd := 13) (l := 61) (f_a_k (f_5_s4 (f_m1 (f_in (q_inr (l := 15) (by decide) h2 h6))))) (by decide) (v := 61) (by decide) ?_
                  refine q_ic_ge (pc' := 13) ja_Member_liking_10 rfl ?_ ?_
                  · intro h16
                    refine q_iconst (pc' := 23) ja_Member_liking_22 rfl 0 (by decide) ?_
                    refine q_iret ja_Member_liking_23 rfl rfl ?_
                    show q_W _ _ _ _ 5 [some (.ref (2 + 2 * a1.toNatClampNeg)), some (.int a2), some (.int a3), none] [.int 0] s
                    refine q_istore_n (pc' := 6) (ls' := [some (.ref (2 + 2 * a1.toNatClampNeg)), some (.int a2), some (.int a3), some (.int 0)]) ja_Member_setLiking_5 rfl ⟨Nat.le_of_ble_eq_true rfl, rfl⟩ rfl ?_
                    refine q_iload_n (pc' := 7) ja_Member_setLiking_6 rfl rfl ?_
                    refine q_if_lt (pc' := 10) ja_Member_setLiking_7 rfl (fun h => absurd h (h15)) (fun _ => ?_)
                    refine q_iload_n (pc' := 11) ja_Member_setLiking_10 rfl rfl ?_
                    refine q_aload_n (pc' := 12) ja_Member_setLiking_11 rfl rfl ?_
                    refine q_getf (pc' := 15) (v := .ref ((2 + 2 * a1.toNatClampNeg) + 1)) ja_Member_setLiking_12 rfl (f_5_c (f_m1 (f_in (q_inr (l := 15) (by decide) h2 h6)))) ⟨by rw [f_5_k (f_m1 (f_in (q_inr (l := 15) (by decide) h2 h6)))], by decide⟩ (f_5_g4 (f_m1 (f_in (q_inr (l := 15) (by decide) h2 h6)))) ?_
                    refine q_alen (pc' := 16) ja_Member_setLiking_15 rfl (f_a_c (f_5_s4 (f_m1 (f_in (q_inr (l := 15) (by decide) h2 h6))))) (kd := 13) (l := 61) (f_a_k (f_5_s4 (f_m1 (f_in (q_inr (l := 15) (by decide) h2 h6))))) (by decide) (v := 61) (by decide) ?_
                    refine q_ic_ge (pc' := 19) ja_Member_setLiking_16 rfl (fun _ => ?_) (fun h => absurd h (h16))
                    refine q_iload_n (pc' := 27) ja_Member_setLiking_26 rfl rfl ?_
                    refine q_iret ja_Member_setLiking_27 rfl rfl ?_
                    show q_W _ _ _ _ 41 [some (.ref 0), some (.int a1), some (.int a2), some (.int a3)] [.int 0] s
                    exact q_iret ja_C_like_41 rfl rfl (k8 h2 h4 h6 h8 h10 h12 h13 h15 h16)
                  · intro h17
                    refine q_aload_n (pc' := 14) ja_Member_liking_13 rfl rfl ?_
                    refine q_getf (pc' := 17) (v := .ref ((2 + 2 * a1.toNatClampNeg) + 1)) ja_Member_liking_14 rfl (f_5_c (f_m1 (f_in (q_inr (l := 15) (by decide) h2 h6)))) ⟨by rw [f_5_k (f_m1 (f_in (q_inr (l := 15) (by decide) h2 h6)))], by decide⟩ (f_5_g4 (f_m1 (f_in (q_inr (l := 15) (by decide) h2 h6)))) ?_
                    refine q_iload_n (pc' := 18) ja_Member_liking_17 rfl rfl ?_
                    refine q_iald (pc' := 19) (v := .int (s ((2 + 2 * a1.toNatClampNeg) + 1) a2.toNatClampNeg)) ja_Member_liking_18 rfl (f_a_c (f_5_s4 (f_m1 (f_in (q_inr (l := 15) (by decide) h2 h6))))) (l := 61) (f_a_k (f_5_s4 (f_m1 (f_in (q_inr (l := 15) (by decide) h2 h6))))) (q_inr (l := 61) (by decide) h15 h17) (f_i (f_a_k (f_5_s4 (f_m1 (f_in (q_inr (l := 15) (by decide) h2 h6))))) rfl) ?_
                    refine q_goto ja_Member_liking_19 ?_
                    refine q_iret ja_Member_liking_23 rfl rfl ?_
                    show q_W _ _ _ _ 5 [some (.ref (2 + 2 * a1.toNatClampNeg)), some (.int a2), some (.int a3), none] [.int (s ((2 + 2 * a1.toNatClampNeg) + 1) a2.toNatClampNeg)] s
                    refine q_istore_n (pc' := 6) (ls' := [some (.ref (2 + 2 * a1.toNatClampNeg)), some (.int a2), some (.int a3), some (.int (s ((2 + 2 * a1.toNatClampNeg) + 1) a2.toNatClampNeg))]) ja_Member_setLiking_5 rfl ⟨Nat.le_of_ble_eq_true rfl, rfl⟩ rfl ?_
                    refine q_iload_n (pc' := 7) ja_Member_setLiking_6 rfl rfl ?_
                    refine q_if_lt (pc' := 10) ja_Member_setLiking_7 rfl (fun h => absurd h (h15)) (fun _ => ?_)
                    refine q_iload_n (pc' := 11) ja_Member_setLiking_10 rfl rfl ?_
                    refine q_aload_n (pc' := 12) ja_Member_setLiking_11 rfl rfl ?_
                    refine q_getf (pc' := 15) (v := .ref ((2 + 2 * a1.toNatClampNeg) + 1)) ja_Member_setLiking_12 rfl (f_5_c (f_m1 (f_in (q_inr (l := 15) (by decide) h2 h6)))) ⟨by rw [f_5_k (f_m1 (f_in (q_inr (l := 15) (by decide) h2 h6)))], by decide⟩ (f_5_g4 (f_m1 (f_in (q_inr (l := 15) (by decide) h2 h6)))) ?_
                    refine q_alen (pc' := 16) ja_Member_setLiking_15 rfl (f_a_c (f_5_s4 (f_m1 (f_in (q_inr (l := 15) (by decide) h2 h6))))) (kd := 13) (l := 61) (f_a_k (f_5_s4 (f_m1 (f_in (q_inr (l := 15) (by decide) h2 h6))))) (by decide) (v := 61) (by decide) ?_
                    refine q_ic_ge (pc' := 19) ja_Member_setLiking_16 rfl (fun h => absurd (h17) h) (fun _ => ?_)
                    refine q_aload_n (pc' := 20) ja_Member_setLiking_19 rfl rfl ?_
                    refine q_getf (pc' := 23) (v := .ref ((2 + 2 * a1.toNatClampNeg) + 1)) ja_Member_setLiking_20 rfl (f_5_c (f_m1 (f_in (q_inr (l := 15) (by decide) h2 h6)))) ⟨by rw [f_5_k (f_m1 (f_in (q_inr (l := 15) (by decide) h2 h6)))], by decide⟩ (f_5_g4 (f_m1 (f_in (q_inr (l := 15) (by decide) h2 h6)))) ?_
                    refine q_iload_n (pc' := 24) ja_Member_setLiking_23 rfl rfl ?_
                    refine q_iload_n (pc' := 25) ja_Member_setLiking_24 rfl rfl ?_
                    refine q_iast (pc' := 26) ja_Member_setLiking_25 rfl (f_a_c (f_5_s4 (f_m1 (f_in (q_inr (l := 15) (by decide) h2 h6))))) (l := 61) (f_a_k (f_5_s4 (f_m1 (f_in (q_inr (l := 15) (by decide) h2 h6))))) (q_inr (l := 61) (by decide) h15 h17) ?_
                    intro s1 e1
                    refine q_iload_n (pc' := 27) ja_Member_setLiking_26 rfl rfl ?_
                    refine q_iret ja_Member_setLiking_27 rfl rfl ?_
                    show q_W _ _ _ _ 41 [some (.ref 0), some (.int a1), some (.int a2), some (.int a3)] [.int (s ((2 + 2 * a1.toNatClampNeg) + 1) a2.toNatClampNeg)] s1
                    exact q_iret ja_C_like_41 rfl rfl (k9 h2 h4 h6 h8 h10 h12 h13 h15 h17 s1 e1)
              · intro h18
                refine q_bipush (pc' := 29) ja_C_like_27 rfl (-100) (by decide) ?_
                exact q_iret ja_C_like_29 rfl rfl (k10 h2 h4 h6 h8 h10 h12 h18)
set_option maxRecDepth 20000 in
theorem t_C_made {G : jv_X} {d : Nat} {B : Option Value → jg_H → Prop} {s : jg_H} (a1 : Int32) (a2 : Int32)
    (k1 : a1 < 0 → B (some (.int (-2))) s)
    (k2 : ¬ a1 < 0 → ¬ a1 < 4 → B (some (.int (-2))) s)
    (k3 : ¬ a1 < 0 → a1 < 4 → ¬ (s (138 + 2 * a1.toNatClampNeg) 0) = (-1) → ¬ a2 ≤ 40 → B (some (.int (-12))) s)
    (k4 : ¬ a1 < 0 → a1 < 4 → ¬ (s (138 + 2 * a1.toNatClampNeg) 0) = (-1) → a2 ≤ 40 → a2 < 0 → B (some (.int (-12))) s)
    (k5 : ¬ a1 < 0 → a1 < 4 → ¬ (s (138 + 2 * a1.toNatClampNeg) 0) = (-1) → a2 ≤ 40 → ¬ a2 < 0 → ¬ a2 < (s (138 + 2 * a1.toNatClampNeg) 0) → B (some (.int (-12))) s)
    (k6 : ¬ a1 < 0 → a1 < 4 → ¬ (s (138 + 2 * a1.toNatClampNeg) 0) = (-1) → a2 ≤ 40 → ¬ a2 < 0 → a2 < (s (138 + 2 * a1.toNatClampNeg) 0) → ¬ a2 < 40 → B (some (.int (-12))) s)
    (k7 : ¬ a1 < 0 → a1 < 4 → ¬ (s (138 + 2 * a1.toNatClampNeg) 0) = (-1) → a2 ≤ 40 → ¬ a2 < 0 → a2 < (s (138 + 2 * a1.toNatClampNeg) 0) → a2 < 40 → (a2 + 3) < 0 → B (some (.int (-12))) s)
    (k8 : ¬ a1 < 0 → a1 < 4 → ¬ (s (138 + 2 * a1.toNatClampNeg) 0) = (-1) → a2 ≤ 40 → ¬ a2 < 0 → a2 < (s (138 + 2 * a1.toNatClampNeg) 0) → a2 < 40 → ¬ (a2 + 3) < 0 → ¬ (a2 + 3) < (s (138 + 2 * a1.toNatClampNeg) 0) → B (some (.int (-12))) s)
    (k9 : ¬ a1 < 0 → a1 < 4 → ¬ (s (138 + 2 * a1.toNatClampNeg) 0) = (-1) → a2 ≤ 40 → ¬ a2 < 0 → a2 < (s (138 + 2 * a1.toNatClampNeg) 0) → a2 < 40 → ¬ (a2 + 3) < 0 → (a2 + 3) < (s (138 + 2 * a1.toNatClampNeg) 0) → ¬ (a2 + 3) < 40 → B (some (.int (-12))) s)
    (k10 : ¬ a1 < 0 → a1 < 4 → ¬ (s (138 + 2 * a1.toNatClampNeg) 0) = (-1) → a2 ≤ 40 → ¬ a2 < 0 → a2 < (s (138 + 2 * a1.toNatClampNeg) 0) → a2 < 40 → ¬ (a2 + 3) < 0 → (a2 + 3) < (s (138 + 2 * a1.toNatClampNeg) 0) → (a2 + 3) < 40 → jv_in (a2 + 1) 40 = true)
    (k11 : ¬ a1 < 0 → a1 < 4 → ¬ (s (138 + 2 * a1.toNatClampNeg) 0) = (-1) → a2 ≤ 40 → ¬ a2 < 0 → a2 < (s (138 + 2 * a1.toNatClampNeg) 0) → a2 < 40 → ¬ (a2 + 3) < 0 → (a2 + 3) < (s (138 + 2 * a1.toNatClampNeg) 0) → (a2 + 3) < 40 → jv_in (a2 + 2) 40 = true)
    (k12 : ¬ a1 < 0 → a1 < 4 → ¬ (s (138 + 2 * a1.toNatClampNeg) 0) = (-1) → a2 ≤ 40 → ¬ a2 < 0 → a2 < (s (138 + 2 * a1.toNatClampNeg) 0) → a2 < 40 → ¬ (a2 + 3) < 0 → (a2 + 3) < (s (138 + 2 * a1.toNatClampNeg) 0) → (a2 + 3) < 40 → q_P G (d + 1) 80 [.ref 0, .int (s ((138 + 2 * a1.toNatClampNeg) + 1) a2.toNatClampNeg), .int (s ((138 + 2 * a1.toNatClampNeg) + 1) (a2 + 1).toNatClampNeg), .int (s ((138 + 2 * a1.toNatClampNeg) + 1) (a2 + 2).toNatClampNeg), .int (s ((138 + 2 * a1.toNatClampNeg) + 1) (a2 + 3).toNatClampNeg)] s (fun v t => q_W G (d + 1) jm_C_made B 89 [some (.ref 0), some (.int a1), some (.int a2), some (.ref (138 + 2 * a1.toNatClampNeg))] (v.toList ++ []) t))
    (k13 : ¬ a1 < 0 → a1 < 4 → (s (138 + 2 * a1.toNatClampNeg) 0) = (-1) → B (some (.int (-11))) s) :
    q_P G (d + 2) 129 [.ref 0, .int a1, .int a2] s B := by
  refine q_in (M := jm_C_made) rfl (Nat.le_of_ble_eq_true rfl) (ls := [some (.ref 0), some (.int a1), some (.int a2), none]) rfl ?_
  refine q_iload_n (pc' := 1) ja_C_made_0 rfl rfl ?_
  refine q_stat (pc' := 4) (as := [.int a1]) (r := []) ja_C_made_1 rfl (by decide) rfl rfl ?_
  refine q_in (M := jm_C_isTray) rfl (Nat.le_of_ble_eq_true rfl) (ls := [some (.int a1)]) rfl ?_
  refine q_iload_n (pc' := 1) ja_C_isTray_0 rfl rfl ?_
  refine q_if_lt (pc' := 4) ja_C_isTray_1 rfl ?_ ?_
  · intro h1
    refine q_iconst (pc' := 14) ja_C_isTray_13 rfl 0 (by decide) ?_
    refine q_iret ja_C_isTray_14 rfl (by decide) ?_
    show q_W _ _ _ _ 4 [some (.ref 0), some (.int a1), some (.int a2), none] [.int 0] s
    refine q_if_ne (pc' := 7) ja_C_made_4 rfl (fun h => absurd ((by decide : (0 : Int32) = 0)) h) (fun _ => ?_)
    refine q_bipush (pc' := 9) ja_C_made_7 rfl (-2) (by decide) ?_
    exact q_iret ja_C_made_9 rfl rfl (k1 h1)
  · intro h2
    refine q_iload_n (pc' := 5) ja_C_isTray_4 rfl rfl ?_
    refine q_iconst (pc' := 6) ja_C_isTray_5 rfl 4 (by decide) ?_
    refine q_ic_ge (pc' := 9) ja_C_isTray_6 rfl ?_ ?_
    · intro h3
      refine q_iconst (pc' := 14) ja_C_isTray_13 rfl 0 (by decide) ?_
      refine q_iret ja_C_isTray_14 rfl (by decide) ?_
      show q_W _ _ _ _ 4 [some (.ref 0), some (.int a1), some (.int a2), none] [.int 0] s
      refine q_if_ne (pc' := 7) ja_C_made_4 rfl (fun h => absurd ((by decide : (0 : Int32) = 0)) h) (fun _ => ?_)
      refine q_bipush (pc' := 9) ja_C_made_7 rfl (-2) (by decide) ?_
      exact q_iret ja_C_made_9 rfl rfl (k2 h2 h3)
    · intro h4
      refine q_iconst (pc' := 10) ja_C_isTray_9 rfl 1 (by decide) ?_
      refine q_goto ja_C_isTray_10 ?_
      refine q_iret ja_C_isTray_14 rfl (by decide) ?_
      show q_W _ _ _ _ 4 [some (.ref 0), some (.int a1), some (.int a2), none] [.int 1] s
      refine q_if_ne (pc' := 7) ja_C_made_4 rfl (fun _ => ?_) (fun h => absurd h ((by decide : ¬ (1 : Int32) = 0)))
      refine q_aload_n (pc' := 11) ja_C_made_10 rfl rfl ?_
      refine q_getf (pc' := 14) (v := .ref 137) ja_C_made_11 rfl (by decide) ⟨rfl, by decide⟩ rfl ?_
      refine q_iload_n (pc' := 15) ja_C_made_14 rfl rfl ?_
      refine q_aald (pc' := 16) (v := .ref (138 + 2 * a1.toNatClampNeg)) ja_C_made_15 rfl (by decide) (kd := 20) (l := 4) rfl (by decide) (q_inr (l := 4) (by decide) h2 h4) (f_A137 (f_in (q_inr (l := 4) (by decide) h2 h4))) ?_
      refine q_astore_n (pc' := 17) (ls' := [some (.ref 0), some (.int a1), some (.int a2), some (.ref (138 + 2 * a1.toNatClampNeg))]) ja_C_made_16 rfl ⟨Nat.le_of_ble_eq_true rfl, rfl⟩ rfl ?_
      refine q_aload_n (pc' := 18) ja_C_made_17 rfl rfl ?_
      refine q_getf (pc' := 21) (v := .int (s (138 + 2 * a1.toNatClampNeg) 0)) ja_C_made_18 rfl (f_10_c (f_m137 (f_in (q_inr (l := 4) (by decide) h2 h4)))) ⟨by rw [f_10_k (f_m137 (f_in (q_inr (l := 4) (by decide) h2 h4)))], by decide⟩ (f_i (f_10_k (f_m137 (f_in (q_inr (l := 4) (by decide) h2 h4)))) rfl) ?_
      refine q_iconst (pc' := 22) ja_C_made_21 rfl (-1) (by decide) ?_
      refine q_ic_ne (pc' := 25) ja_C_made_22 rfl ?_ ?_
      · intro h5
        refine q_iload_n (pc' := 29) ja_C_made_28 rfl rfl ?_
        refine q_bipush (pc' := 31) ja_C_made_29 rfl 40 (by decide) ?_
        refine q_ic_gt (pc' := 34) ja_C_made_31 rfl ?_ ?_
        · intro h6
          refine q_bipush (pc' := 54) ja_C_made_52 rfl (-12) (by decide) ?_
          exact q_iret ja_C_made_54 rfl rfl (k3 h2 h4 h5 h6)
        · intro h7
          refine q_aload_n (pc' := 35) ja_C_made_34 rfl rfl ?_
          refine q_iload_n (pc' := 36) ja_C_made_35 rfl rfl ?_
          refine q_virt (pc' := 39) (c := (138 + 2 * a1.toNatClampNeg)) (as := [.int a2]) (r := []) ja_C_made_36 rfl rfl rfl (f_10_c (f_m137 (f_in (q_inr (l := 4) (by decide) h2 h4)))) ⟨by rw [f_10_k (f_m137 (f_in (q_inr (l := 4) (by decide) h2 h4)))], by decide⟩ ?_
          refine q_in (M := jm_Tray_has) rfl (Nat.le_of_ble_eq_true rfl) (ls := [some (.ref (138 + 2 * a1.toNatClampNeg)), some (.int a2)]) rfl ?_
          refine q_iload_n (pc' := 1) ja_Tray_has_0 rfl rfl ?_
          refine q_if_lt (pc' := 4) ja_Tray_has_1 rfl ?_ ?_
          · intro h8
            refine q_iconst (pc' := 26) ja_Tray_has_25 rfl 0 (by decide) ?_
            refine q_iret ja_Tray_has_26 rfl (by decide) ?_
            show q_W _ _ _ _ 39 [some (.ref 0), some (.int a1), some (.int a2), some (.ref (138 + 2 * a1.toNatClampNeg))] [.int 0] s
            refine q_if_eq (pc' := 42) ja_C_made_39 rfl (fun _ => ?_) (fun h => absurd ((by decide : (0 : Int32) = 0)) h)
            refine q_bipush (pc' := 54) ja_C_made_52 rfl (-12) (by decide) ?_
            exact q_iret ja_C_made_54 rfl rfl (k4 h2 h4 h5 h7 h8)
          · intro h9
            refine q_iload_n (pc' := 5) ja_Tray_has_4 rfl rfl ?_
            refine q_aload_n (pc' := 6) ja_Tray_has_5 rfl rfl ?_
            refine q_getf (pc' := 9) (v := .int (s (138 + 2 * a1.toNatClampNeg) 0)) ja_Tray_has_6 rfl (f_10_c (f_m137 (f_in (q_inr (l := 4) (by decide) h2 h4)))) ⟨by rw [f_10_k (f_m137 (f_in (q_inr (l := 4) (by decide) h2 h4)))], by decide⟩ (f_i (f_10_k (f_m137 (f_in (q_inr (l := 4) (by decide) h2 h4)))) rfl) ?_
            refine q_ic_ge (pc' := 12) ja_Tray_has_9 rfl ?_ ?_
            · intro h10
              refine q_iconst (pc' := 26) ja_Tray_has_25 rfl 0 (by decide) ?_
              refine q_iret ja_Tray_has_26 rfl (by decide) ?_
              show q_W _ _ _ _ 39 [some (.ref 0), some (.int a1), some (.int a2), some (.ref (138 + 2 * a1.toNatClampNeg))] [.int 0] s
              refine q_if_eq (pc' := 42) ja_C_made_39 rfl (fun _ => ?_) (fun h => absurd ((by decide : (0 : Int32) = 0)) h)
              refine q_bipush (pc' := 54) ja_C_made_52 rfl (-12) (by decide) ?_
              exact q_iret ja_C_made_54 rfl rfl (k5 h2 h4 h5 h7 h9 h10)
            · intro h11
              refine q_iload_n (pc' := 13) ja_Tray_has_12 rfl rfl ?_
              refine q_aload_n (pc' := 14) ja_Tray_has_13 rfl rfl ?_
              refine q_getf (pc' := 17) (v := .ref ((138 + 2 * a1.toNatClampNeg) + 1)) ja_Tray_has_14 rfl (f_10_c (f_m137 (f_in (q_inr (l := 4) (by decide) h2 h4)))) ⟨by rw [f_10_k (f_m137 (f_in (q_inr (l := 4) (by decide) h2 h4)))], by decide⟩ (f_10_g1 (f_m137 (f_in (q_inr (l := 4) (by decide) h2 h4)))) ?_
              refine q_alen (pc' := 18) ja_Tray_has_17 rfl (f_a_c (f_10_s1 (f_m137 (f_in (q_inr (l := 4) (by decide) h2 h4))))) (kd := 13) (l := 40) (f_a_k (f_10_s1 (f_m137 (f_in (q_inr (l := 4) (by decide) h2 h4))))) (by decide) (v := 40) (by decide) ?_
              refine q_ic_ge (pc' := 21) ja_Tray_has_18 rfl ?_ ?_
              · intro h12
                refine q_iconst (pc' := 26) ja_Tray_has_25 rfl 0 (by decide) ?_
                refine q_iret ja_Tray_has_26 rfl (by decide) ?_
                show q_W _ _ _ _ 39 [some (.ref 0), some (.int a1), some (.int a2), some (.ref (138 + 2 * a1.toNatClampNeg))] [.int 0] s
                refine q_if_eq (pc' := 42) ja_C_made_39 rfl (fun _ => ?_) (fun h => absurd ((by decide : (0 : Int32) = 0)) h)
                refine q_bipush (pc' := 54) ja_C_made_52 rfl (-12) (by decide) ?_
                exact q_iret ja_C_made_54 rfl rfl (k6 h2 h4 h5 h7 h9 h11 h12)
              · intro h13
                refine q_iconst (pc' := 22) ja_Tray_has_21 rfl 1 (by decide) ?_
                refine q_goto ja_Tray_has_22 ?_
                refine q_iret ja_Tray_has_26 rfl (by decide) ?_
                show q_W _ _ _ _ 39 [some (.ref 0), some (.int a1), some (.int a2), some (.ref (138 + 2 * a1.toNatClampNeg))] [.int 1] s
                refine q_if_eq (pc' := 42) ja_C_made_39 rfl (fun h => absurd h ((by decide : ¬ (1 : Int32) = 0))) (fun _ => ?_)
                refine q_aload_n (pc' := 43) ja_C_made_42 rfl rfl ?_
                refine q_iload_n (pc' := 44) ja_C_made_43 rfl rfl ?_
                refine q_iconst (pc' := 45) ja_C_made_44 rfl 3 (by decide) ?_
                refine q_iadd (pc' := 46) ja_C_made_45 rfl ?_
                refine q_virt (pc' := 49) (c := (138 + 2 * a1.toNatClampNeg)) (as := [.int (a2 + 3)]) (r := []) ja_C_made_46 rfl rfl rfl (f_10_c (f_m137 (f_in (q_inr (l := 4) (by decide) h2 h4)))) ⟨by rw [f_10_k (f_m137 (f_in (q_inr (l := 4) (by decide) h2 h4)))], by decide⟩ ?_
                refine q_in (M := jm_Tray_has) rfl (Nat.le_of_ble_eq_true rfl) (ls := [some (.ref (138 + 2 * a1.toNatClampNeg)), some (.int (a2 + 3))]) rfl ?_
                refine q_iload_n (pc' := 1) ja_Tray_has_0 rfl rfl ?_
                refine q_if_lt (pc' := 4) ja_Tray_has_1 rfl ?_ ?_
                · intro h14
                  refine q_iconst (pc' := 26) ja_Tray_has_25 rfl 0 (by decide) ?_
                  refine q_iret ja_Tray_has_26 rfl (by decide) ?_
                  show q_W _ _ _ _ 49 [some (.ref 0), some (.int a1), some (.int a2), some (.ref (138 + 2 * a1.toNatClampNeg))] [.int 0] s
                  refine q_if_ne (pc' := 52) ja_C_made_49 rfl (fun h => absurd ((by decide : (0 : Int32) = 0)) h) (fun _ => ?_)
                  refine q_bipush (pc' := 54) ja_C_made_52 rfl (-12) (by decide) ?_
                  exact q_iret ja_C_made_54 rfl rfl (k7 h2 h4 h5 h7 h9 h11 h13 h14)
                · intro h15
                  refine q_iload_n (pc' := 5) ja_Tray_has_4 rfl rfl ?_
                  refine q_aload_n (pc' := 6) ja_Tray_has_5 rfl rfl ?_
                  refine q_getf (pc' := 9) (v := .int (s (138 + 2 * a1.toNatClampNeg) 0)) ja_Tray_has_6 rfl (f_10_c (f_m137 (f_in (q_inr (l := 4) (by decide) h2 h4)))) ⟨by rw [f_10_k (f_m137 (f_in (q_inr (l := 4) (by decide) h2 h4)))], by decide⟩ (f_i (f_10_k (f_m137 (f_in (q_inr (l := 4) (by decide) h2 h4)))) rfl) ?_
                  refine q_ic_ge (pc' := 12) ja_Tray_has_9 rfl ?_ ?_
                  · intro h16
                    refine q_iconst (pc' := 26) ja_Tray_has_25 rfl 0 (by decide) ?_
                    refine q_iret ja_Tray_has_26 rfl (by decide) ?_
                    show q_W _ _ _ _ 49 [some (.ref 0), some (.int a1), some (.int a2), some (.ref (138 + 2 * a1.toNatClampNeg))] [.int 0] s
                    refine q_if_ne (pc' := 52) ja_C_made_49 rfl (fun h => absurd ((by decide : (0 : Int32) = 0)) h) (fun _ => ?_)
                    refine q_bipush (pc' := 54) ja_C_made_52 rfl (-12) (by decide) ?_
                    exact q_iret ja_C_made_54 rfl rfl (k8 h2 h4 h5 h7 h9 h11 h13 h15 h16)
                  · intro h17
                    refine q_iload_n (pc' := 13) ja_Tray_has_12 rfl rfl ?_
                    refine q_aload_n (pc' := 14) ja_Tray_has_13 rfl rfl ?_
                    refine q_getf (pc' := 17) (v := .ref ((138 + 2 * a1.toNatClampNeg) + 1)) ja_Tray_has_14 rfl (f_10_c (f_m137 (f_in (q_inr (l := 4) (by decide) h2 h4)))) ⟨by rw [f_10_k (f_m137 (f_in (q_inr (l := 4) (by decide) h2 h4)))], by decide⟩ (f_10_g1 (f_m137 (f_in (q_inr (l := 4) (by decide) h2 h4)))) ?_
                    refine q_alen (pc' := 18) ja_Tray_has_17 rfl (f_a_c (f_10_s1 (f_m137 (f_in (q_inr (l := 4) (by decide) h2 h4))))) (kd := 13) (l := 40) (f_a_k (f_10_s1 (f_m137 (f_in (q_inr (l := 4) (by decide) h2 h4))))) (by decide) (v := 40) (by decide) ?_
                    refine q_ic_ge (pc' := 21) ja_Tray_has_18 rfl ?_ ?_
                    · intro h18
                      refine q_iconst (pc' := 26) ja_Tray_has_25 rfl 0 (by decide) ?_
                      refine q_iret ja_Tray_has_26 rfl (by decide) ?_
                      show q_W _ _ _ _ 49 [some (.ref 0), some (.int a1), some (.int a2), some (.ref (138 + 2 * a1.toNatClampNeg))] [.int 0] s
                      refine q_if_ne (pc' := 52) ja_C_made_49 rfl (fun h => absurd ((by decide : (0 : Int32) = 0)) h) (fun _ => ?_)
                      refine q_bipush (pc' := 54) ja_C_made_52 rfl (-12) (by decide) ?_
                      exact q_iret ja_C_made_54 rfl rfl (k9 h2 h4 h5 h7 h9 h11 h13 h15 h17 h18)
                    · intro h19
                      refine q_iconst (pc' := 22) ja_Tray_has_21 rfl 1 (by decide) ?_
                      refine q_goto ja_Tray_has_22 ?_
                      refine q_iret ja_Tray_has_26 rfl (by decide) ?_
                      show q_W _ _ _ _ 49 [some (.ref 0), some (.int a1), some (.int a2), some (.ref (138 + 2 * a1.toNatClampNeg))] [.int 1] s
                      refine q_if_ne (pc' := 52) ja_C_made_49 rfl (fun _ => ?_) (fun h => absurd h ((by decide : ¬ (1 : Int32) = 0)))
                      refine q_aload_n (pc' := 56) ja_C_made_55 rfl rfl ?_
                      refine q_aload_n (pc' := 57) ja_C_made_56 rfl rfl ?_
                      refine q_getf (pc' := 60) (v := .ref ((138 + 2 * a1.toNatClampNeg) + 1)) ja_C_made_57 rfl (f_10_c (f_m137 (f_in (q_inr (l := 4) (by decide) h2 h4)))) ⟨by rw [f_10_k (f_m137 (f_in (q_inr (l := 4) (by decide) h2 h4)))], by decide⟩ (f_10_g1 (f_m137 (f_in (q_inr (l := 4) (by decide) h2 h4)))) ?_
                      refine q_iload_n (pc' := 61) ja_C_made_60 rfl rfl ?_
                      refine q_iald (pc' := 62) (v := .int (s ((138 + 2 * a1.toNatClampNeg) + 1) a2.toNatClampNeg)) ja_C_made_61 rfl (f_a_c (f_10_s1 (f_m137 (f_in (q_inr (l := 4) (by decide) h2 h4))))) (l := 40) (f_a_k (f_10_s1 (f_m137 (f_in (q_inr (l := 4) (by decide) h2 h4))))) (q_inr (l := 40) (by decide) h9 h13) (f_i (f_a_k (f_10_s1 (f_m137 (f_in (q_inr (l := 4) (by decide) h2 h4))))) rfl) ?_
                      refine q_aload_n (pc' := 63) ja_C_made_62 rfl rfl ?_
                      refine q_getf (pc' := 66) (v := .ref ((138 + 2 * a1.toNatClampNeg) + 1)) ja_C_made_63 rfl (f_10_c (f_m137 (f_in (q_inr (l := 4) (by decide) h2 h4)))) ⟨by rw [f_10_k (f_m137 (f_in (q_inr (l := 4) (by decide) h2 h4)))], by decide⟩ (f_10_g1 (f_m137 (f_in (q_inr (l := 4) (by decide) h2 h4)))) ?_
                      refine q_iload_n (pc' := 67) ja_C_made_66 rfl rfl ?_
                      refine q_iconst (pc' := 68) ja_C_made_67 rfl 1 (by decide) ?_
                      refine q_iadd (pc' := 69) ja_C_made_68 rfl ?_
                      refine q_iald (pc' := 70) (v := .int (s ((138 + 2 * a1.toNatClampNeg) + 1) (a2 + 1).toNatClampNeg)) ja_C_made_69 rfl (f_a_c (f_10_s1 (f_m137 (f_in (q_inr (l := 4) (by decide) h2 h4))))) (l := 40) (f_a_k (f_10_s1 (f_m137 (f_in (q_inr (l := 4) (by decide) h2 h4))))) (k10 h2 h4 h5 h7 h9 h11 h13 h15 h17 h19) (f_i (f_a_k (f_10_s1 (f_m137 (f_in (q_inr (l := 4) (by decide) h2 h4))))) rfl) ?_
                      refine q_aload_n (pc' := 71) ja_C_made_70 rfl rfl ?_
                      refine q_getf (pc' := 74) (v := .ref ((138 + 2 * a1.toNatClampNeg) + 1)) ja_C_made_71 rfl (f_10_c (f_m137 (f_in (q_inr (l := 4) (by decide) h2 h4)))) ⟨by rw [f_10_k (f_m137 (f_in (q_inr (l := 4) (by decide) h2 h4)))], by decide⟩ (f_10_g1 (f_m137 (f_in (q_inr (l := 4) (by decide) h2 h4)))) ?_
                      refine q_iload_n (pc' := 75) ja_C_made_74 rfl rfl ?_
                      refine q_iconst (pc' := 76) ja_C_made_75 rfl 2 (by decide) ?_
                      refine q_iadd (pc' := 77) ja_C_made_76 rfl ?_
                      refine q_iald (pc' := 78) (v := .int (s ((138 + 2 * a1.toNatClampNeg) + 1) (a2 + 2).toNatClampNeg)) ja_C_made_77 rfl (f_a_c (f_10_s1 (f_m137 (f_in (q_inr (l := 4) (by decide) h2 h4))))) (l := 40) (f_a_k (f_10_s1 (f_m137 (f_in (q_inr (l := 4) (by decide) h2 h4))))) (k11 h2 h4 h5 h7 h9 h11 h13 h15 h17 h19) (f_i (f_a_k (f_10_s1 (f_m137 (f_in (q_inr (l := 4) (by decide) h2 h4))))) rfl) ?_
                      refine q_aload_n (pc' := 79) ja_C_made_78 rfl rfl ?_
                      refine q_getf (pc' := 82) (v := .ref ((138 + 2 * a1.toNatClampNeg) + 1)) ja_C_made_79 rfl (f_10_c (f_m137 (f_in (q_inr (l := 4) (by decide) h2 h4)))) ⟨by rw [f_10_k (f_m137 (f_in (q_inr (l := 4) (by decide) h2 h4)))], by decide⟩ (f_10_g1 (f_m137 (f_in (q_inr (l := 4) (by decide) h2 h4)))) ?_
                      refine q_iload_n (pc' := 83) ja_C_made_82 rfl rfl ?_
                      refine q_iconst (pc' := 84) ja_C_made_83 rfl 3 (by decide) ?_
                      refine q_iadd (pc' := 85) ja_C_made_84 rfl ?_
                      refine q_iald (pc' := 86) (v := .int (s ((138 + 2 * a1.toNatClampNeg) + 1) (a2 + 3).toNatClampNeg)) ja_C_made_85 rfl (f_a_c (f_10_s1 (f_m137 (f_in (q_inr (l := 4) (by decide) h2 h4))))) (l := 40) (f_a_k (f_10_s1 (f_m137 (f_in (q_inr (l := 4) (by decide) h2 h4))))) (q_inr (l := 40) (by decide) h15 h19) (f_i (f_a_k (f_10_s1 (f_m137 (f_in (q_inr (l := 4) (by decide) h2 h4))))) rfl) ?_
                      refine q_virt (pc' := 89) (c := 0) (as := [.int (s ((138 + 2 * a1.toNatClampNeg) + 1) a2.toNatClampNeg), .int (s ((138 + 2 * a1.toNatClampNeg) + 1) (a2 + 1).toNatClampNeg), .int (s ((138 + 2 * a1.toNatClampNeg) + 1) (a2 + 2).toNatClampNeg), .int (s ((138 + 2 * a1.toNatClampNeg) + 1) (a2 + 3).toNatClampNeg)]) (r := []) ja_C_made_86 rfl rfl rfl (by decide) ⟨rfl, by decide⟩ ?_
                      exact (k12 h2 h4 h5 h7 h9 h11 h13 h15 h17 h19)
      · intro h20
        refine q_bipush (pc' := 27) ja_C_made_25 rfl (-11) (by decide) ?_
        exact q_iret ja_C_made_27 rfl rfl (k13 h2 h4 h20)
set_option maxRecDepth 20000 in
theorem t_C_made_89 {G : jv_X} {d : Nat} {B : Option Value → jg_H → Prop} {s : jg_H} (x1 : Int32) (x2 : Int32) {x3 : Nat} (hx3 : f_10 x3) (y0 : Int32)
    (k1 : B (some (.int y0)) s) :
    q_W G (d + 1) jm_C_made B 89 [some (.ref 0), some (.int x1), some (.int x2), some (.ref x3)] [.int y0] s := by
  exact q_iret ja_C_made_89 rfl rfl k1
set_option maxRecDepth 20000 in
theorem t_C_member {G : jv_X} {d : Nat} {B : Option Value → jg_H → Prop} {s : jg_H} (a1 : Int32)
    (k1 : a1 < 0 → B (some (.int (-2))) s)
    (k2 : ¬ a1 < 0 → a1 ≤ 3 → (s 0 1) < 15 → jv_in (s 0 1) 15 = true)
    (k3 : ¬ a1 < 0 → a1 ≤ 3 → (s 0 1) < 15 → ∀ s1 : jg_H, s1 = jg_up s (2 + 2 * (s 0 1).toNatClampNeg) 0 a1 → ∀ s2 : jg_H, s2 = jg_up s1 0 1 ((s1 0 1) + 1) → B (some (.int ((s2 0 1) - 1))) s2)
    (k4 : ¬ a1 < 0 → a1 ≤ 3 → ¬ (s 0 1) < 15 → B (some (.int (-4))) s)
    (k5 : ¬ a1 < 0 → ¬ a1 ≤ 3 → B (some (.int (-2))) s) :
    q_P G (d + 1) 39 [.ref 0, .int a1] s B := by
  refine q_in (M := jm_C_member) rfl (Nat.le_of_ble_eq_true rfl) (ls := [some (.ref 0), some (.int a1)]) rfl ?_
  refine q_iload_n (pc' := 1) ja_C_member_0 rfl rfl ?_
  refine q_if_lt (pc' := 4) ja_C_member_1 rfl ?_ ?_
  · intro h1
    refine q_bipush (pc' := 11) ja_C_member_9 rfl (-2) (by decide) ?_
    exact q_iret ja_C_member_11 rfl rfl (k1 h1)
  · intro h2
    refine q_iload_n (pc' := 5) ja_C_member_4 rfl rfl ?_
    refine q_iconst (pc' := 6) ja_C_member_5 rfl 3 (by decide) ?_
    refine q_ic_le (pc' := 9) ja_C_member_6 rfl ?_ ?_
    · intro h3
      refine q_aload_n (pc' := 13) ja_C_member_12 rfl rfl ?_
      refine q_getf (pc' := 16) (v := .int (s 0 1)) ja_C_member_13 rfl (by decide) ⟨rfl, by decide⟩ rfl ?_
      refine q_aload_n (pc' := 17) ja_C_member_16 rfl rfl ?_
      refine q_getf (pc' := 20) (v := .ref 1) ja_C_member_17 rfl (by decide) ⟨rfl, by decide⟩ rfl ?_
      refine q_alen (pc' := 21) ja_C_member_20 rfl (by decide) (kd := 16) (l := 15) rfl (by decide) (v := 15) (by decide) ?_
      refine q_ic_lt (pc' := 24) ja_C_member_21 rfl ?_ ?_
      · intro h4
        refine q_aload_n (pc' := 28) ja_C_member_27 rfl rfl ?_
        refine q_getf (pc' := 31) (v := .ref 1) ja_C_member_28 rfl (by decide) ⟨rfl, by decide⟩ rfl ?_
        refine q_aload_n (pc' := 32) ja_C_member_31 rfl rfl ?_
        refine q_getf (pc' := 35) (v := .int (s 0 1)) ja_C_member_32 rfl (by decide) ⟨rfl, by decide⟩ rfl ?_
        refine q_aald (pc' := 36) (v := .ref (2 + 2 * (s 0 1).toNatClampNeg)) ja_C_member_35 rfl (by decide) (kd := 16) (l := 15) rfl (by decide) (k2 h2 h3 h4) (f_A1 (f_in (k2 h2 h3 h4))) ?_
        refine q_iload_n (pc' := 37) ja_C_member_36 rfl rfl ?_
        refine q_putf (pc' := 40) ja_C_member_37 rfl (f_5_c (f_m1 (f_in (k2 h2 h3 h4)))) (by rw [f_5_k (f_m1 (f_in (k2 h2 h3 h4)))]) rfl (by rw [f_5_k (f_m1 (f_in (k2 h2 h3 h4)))]; rfl) ?_
        intro s1 e1
        refine q_aload_n (pc' := 41) ja_C_member_40 rfl rfl ?_
        refine q_dup (pc' := 42) ja_C_member_41 rfl rfl ?_
        refine q_getf (pc' := 45) (v := .int (s1 0 1)) ja_C_member_42 rfl (by decide) ⟨rfl, by decide⟩ rfl ?_
        refine q_iconst (pc' := 46) ja_C_member_45 rfl 1 (by decide) ?_
        refine q_iadd (pc' := 47) ja_C_member_46 rfl ?_
        refine q_putf (pc' := 50) ja_C_member_47 rfl (by decide) rfl rfl rfl ?_
        intro s2 e2
        refine q_aload_n (pc' := 51) ja_C_member_50 rfl rfl ?_
        refine q_getf (pc' := 54) (v := .int (s2 0 1)) ja_C_member_51 rfl (by decide) ⟨rfl, by decide⟩ rfl ?_
        refine q_iconst (pc' := 55) ja_C_member_54 rfl 1 (by decide) ?_
        refine q_isub (pc' := 56) ja_C_member_55 rfl ?_
        exact q_iret ja_C_member_56 rfl rfl (k3 h2 h3 h4 s1 e1 s2 e2)
      · intro h5
        refine q_bipush (pc' := 26) ja_C_member_24 rfl (-4) (by decide) ?_
        exact q_iret ja_C_member_26 rfl rfl (k4 h2 h3 h5)
    · intro h6
      refine q_bipush (pc' := 11) ja_C_member_9 rfl (-2) (by decide) ?_
      exact q_iret ja_C_member_11 rfl rfl (k5 h2 h6)
set_option maxRecDepth 20000 in
theorem t_C_memberTold {G : jv_X} {d : Nat} {B : Option Value → jg_H → Prop} {s : jg_H} (a1 : Int32) (a2 : Int32)
    (k1 : a1 < 0 → B (some (.int (-2))) s)
    (k2 : ¬ a1 < 0 → ¬ a1 < (s 0 1) → B (some (.int (-2))) s)
    (k3 : ¬ a1 < 0 → a1 < (s 0 1) → ¬ a1 < 15 → B (some (.int (-2))) s)
    (k4 : ¬ a1 < 0 → a1 < (s 0 1) → a1 < 15 → a2 = 0 → B (some (.int (s (2 + 2 * a1.toNatClampNeg) 0))) s)
    (k5 : ¬ a1 < 0 → a1 < (s 0 1) → a1 < 15 → ¬ a2 = 0 → a2 = 1 → (s (2 + 2 * a1.toNatClampNeg) 1) = 0 → B (some (.int 0)) s)
    (k6 : ¬ a1 < 0 → a1 < (s 0 1) → a1 < 15 → ¬ a2 = 0 → a2 = 1 → ¬ (s (2 + 2 * a1.toNatClampNeg) 1) = 0 → B (some (.int 1)) s)
    (k7 : ¬ a1 < 0 → a1 < (s 0 1) → a1 < 15 → ¬ a2 = 0 → ¬ a2 = 1 → a2 = 2 → B (some (.int (s (2 + 2 * a1.toNatClampNeg) 2))) s)
    (k8 : ¬ a1 < 0 → a1 < (s 0 1) → a1 < 15 → ¬ a2 = 0 → ¬ a2 = 1 → ¬ a2 = 2 → a2 = 3 → B (some (.int (s (2 + 2 * a1.toNatClampNeg) 3))) s)
    (k9 : ¬ a1 < 0 → a1 < (s 0 1) → a1 < 15 → ¬ a2 = 0 → ¬ a2 = 1 → ¬ a2 = 2 → ¬ a2 = 3 → B (some (.int (-2))) s) :
    q_P G (d + 2) 49 [.ref 0, .int a1, .int a2] s B := by
  refine q_in (M := jm_C_memberTold) rfl (Nat.le_of_ble_eq_true rfl) (ls := [some (.ref 0), some (.int a1), some (.int a2), none]) rfl ?_
  refine q_aload_n (pc' := 1) ja_C_memberTold_0 rfl rfl ?_
  refine q_iload_n (pc' := 2) ja_C_memberTold_1 rfl rfl ?_
  refine q_virt (pc' := 5) (c := 0) (as := [.int a1]) (r := []) ja_C_memberTold_2 rfl rfl rfl (by decide) ⟨rfl, by decide⟩ ?_
  refine q_in (M := jm_C_isMember) rfl (Nat.le_of_ble_eq_true rfl) (ls := [some (.ref 0), some (.int a1)]) rfl ?_
  refine q_iload_n (pc' := 1) ja_C_isMember_0 rfl rfl ?_
  refine q_if_lt (pc' := 4) ja_C_isMember_1 rfl ?_ ?_
  · intro h1
    refine q_iconst (pc' := 26) ja_C_isMember_25 rfl 0 (by decide) ?_
    refine q_iret ja_C_isMember_26 rfl (by decide) ?_
    show q_W _ _ _ _ 5 [some (.ref 0), some (.int a1), some (.int a2), none] [.int 0] s
    refine q_if_ne (pc' := 8) ja_C_memberTold_5 rfl (fun h => absurd ((by decide : (0 : Int32) = 0)) h) (fun _ => ?_)
    refine q_bipush (pc' := 10) ja_C_memberTold_8 rfl (-2) (by decide) ?_
    exact q_iret ja_C_memberTold_10 rfl rfl (k1 h1)
  · intro h2
    refine q_iload_n (pc' := 5) ja_C_isMember_4 rfl rfl ?_
    refine q_aload_n (pc' := 6) ja_C_isMember_5 rfl rfl ?_
    refine q_getf (pc' := 9) (v := .int (s 0 1)) ja_C_isMember_6 rfl (by decide) ⟨rfl, by decide⟩ rfl ?_
    refine q_ic_ge (pc' := 12) ja_C_isMember_9 rfl ?_ ?_
    · intro h3
      refine q_iconst (pc' := 26) ja_C_isMember_25 rfl 0 (by decide) ?_
      refine q_iret ja_C_isMember_26 rfl (by decide) ?_
      show q_W _ _ _ _ 5 [some (.ref 0), some (.int a1), some (.int a2), none] [.int 0] s
      refine q_if_ne (pc' := 8) ja_C_memberTold_5 rfl (fun h => absurd ((by decide : (0 : Int32) = 0)) h) (fun _ => ?_)
      refine q_bipush (pc' := 10) ja_C_memberTold_8 rfl (-2) (by decide) ?_
      exact q_iret ja_C_memberTold_10 rfl rfl (k2 h2 h3)
    · intro h4
      refine q_iload_n (pc' := 13) ja_C_isMember_12 rfl rfl ?_
      refine q_aload_n (pc' := 14) ja_C_isMember_13 rfl rfl ?_
      refine q_getf (pc' := 17) (v := .ref 1) ja_C_isMember_14 rfl (by decide) ⟨rfl, by decide⟩ rfl ?_
      refine q_alen (pc' := 18) ja_C_isMember_17 rfl (by decide) (kd := 16) (l := 15) rfl (by decide) (v := 15) (by decide) ?_
      refine q_ic_ge (pc' := 21) ja_C_isMember_18 rfl ?_ ?_
      · intro h5
        refine q_iconst (pc' := 26) ja_C_isMember_25 rfl 0 (by decide) ?_
        refine q_iret ja_C_isMember_26 rfl (by decide) ?_
        show q_W _ _ _ _ 5 [some (.ref 0), some (.int a1), some (.int a2), none] [.int 0] s
        refine q_if_ne (pc' := 8) ja_C_memberTold_5 rfl (fun h => absurd ((by decide : (0 : Int32) = 0)) h) (fun _ => ?_)
        refine q_bipush (pc' := 10) ja_C_memberTold_8 rfl (-2) (by decide) ?_
        exact q_iret ja_C_memberTold_10 rfl rfl (k3 h2 h4 h5)
      · intro h6
        refine q_iconst (pc' := 22) ja_C_isMember_21 rfl 1 (by decide) ?_
        refine q_goto ja_C_isMember_22 ?_
        refine q_iret ja_C_isMember_26 rfl (by decide) ?_
        show q_W _ _ _ _ 5 [some (.ref 0), some (.int a1), some (.int a2), none] [.int 1] s
        refine q_if_ne (pc' := 8) ja_C_memberTold_5 rfl (fun _ => ?_) (fun h => absurd h ((by decide : ¬ (1 : Int32) = 0)))
        refine q_aload_n (pc' := 12) ja_C_memberTold_11 rfl rfl ?_
        refine q_getf (pc' := 15) (v := .ref 1) ja_C_memberTold_12 rfl (by decide) ⟨rfl, by decide⟩ rfl ?_
        refine q_iload_n (pc' := 16) ja_C_memberTold_15 rfl rfl ?_
        refine q_aald (pc' := 17) (v := .ref (2 + 2 * a1.toNatClampNeg)) ja_C_memberTold_16 rfl (by decide) (kd := 16) (l := 15) rfl (by decide) (q_inr (l := 15) (by decide) h2 h6) (f_A1 (f_in (q_inr (l := 15) (by decide) h2 h6))) ?_
        refine q_astore_n (pc' := 18) (ls' := [some (.ref 0), some (.int a1), some (.int a2), some (.ref (2 + 2 * a1.toNatClampNeg))]) ja_C_memberTold_17 rfl ⟨Nat.le_of_ble_eq_true rfl, rfl⟩ rfl ?_
        refine q_iload_n (pc' := 19) ja_C_memberTold_18 rfl rfl ?_
        by_cases h7 : a2 = 0
        · refine q_swE (pc' := 48) ja_C_memberTold_19 (by rw [h7]; decide) (by rw [h7]; exact ⟨_, rfl, rfl⟩) ?_
          refine q_aload_n (pc' := 49) ja_C_memberTold_48 rfl rfl ?_
          refine q_getf (pc' := 52) (v := .int (s (2 + 2 * a1.toNatClampNeg) 0)) ja_C_memberTold_49 rfl (f_5_c (f_m1 (f_in (q_inr (l := 15) (by decide) h2 h6)))) ⟨by rw [f_5_k (f_m1 (f_in (q_inr (l := 15) (by decide) h2 h6)))], by decide⟩ (f_i (f_5_k (f_m1 (f_in (q_inr (l := 15) (by decide) h2 h6)))) rfl) ?_
          exact q_iret ja_C_memberTold_52 rfl rfl (k4 h2 h4 h6 h7)
        by_cases h8 : a2 = 1
        · refine q_swE (pc' := 53) ja_C_memberTold_19 (by rw [h8]; decide) (by rw [h8]; exact ⟨_, rfl, rfl⟩) ?_
          refine q_aload_n (pc' := 54) ja_C_memberTold_53 rfl rfl ?_
          refine q_getf (pc' := 57) (v := .int (s (2 + 2 * a1.toNatClampNeg) 1)) ja_C_memberTold_54 rfl (f_5_c (f_m1 (f_in (q_inr (l := 15) (by decide) h2 h6)))) ⟨by rw [f_5_k (f_m1 (f_in (q_inr (l := 15) (by decide) h2 h6)))], by decide⟩ (f_i (f_5_k (f_m1 (f_in (q_inr (l := 15) (by decide) h2 h6)))) rfl) ?_
          refine q_if_eq (pc' := 60) ja_C_memberTold_57 rfl ?_ ?_
          · intro h9
            refine q_iconst (pc' := 65) ja_C_memberTold_64 rfl 0 (by decide) ?_
            exact q_iret ja_C_memberTold_65 rfl rfl (k5 h2 h4 h6 h7 h8 h9)
          · intro h10
            refine q_iconst (pc' := 61) ja_C_memberTold_60 rfl 1 (by decide) ?_
            refine q_goto ja_C_memberTold_61 ?_
            exact q_iret ja_C_memberTold_65 rfl rfl (k6 h2 h4 h6 h7 h8 h10)
        by_cases h11 : a2 = 2
        · refine q_swE (pc' := 66) ja_C_memberTold_19 (by rw [h11]; decide) (by rw [h11]; exact ⟨_, rfl, rfl⟩) ?_
          refine q_aload_n (pc' := 67) ja_C_memberTold_66 rfl rfl ?_
          refine q_getf (pc' := 70) (v := .int (s (2 + 2 * a1.toNatClampNeg) 2)) ja_C_memberTold_67 rfl (f_5_c (f_m1 (f_in (q_inr (l := 15) (by decide) h2 h6)))) ⟨by rw [f_5_k (f_m1 (f_in (q_inr (l := 15) (by decide) h2 h6)))], by decide⟩ (f_i (f_5_k (f_m1 (f_in (q_inr (l := 15) (by decide) h2 h6)))) rfl) ?_
          exact q_iret ja_C_memberTold_70 rfl rfl (k7 h2 h4 h6 h7 h8 h11)
        by_cases h12 : a2 = 3
        · refine q_swE (pc' := 71) ja_C_memberTold_19 (by rw [h12]; decide) (by rw [h12]; exact ⟨_, rfl, rfl⟩) ?_
          refine q_aload_n (pc' := 72) ja_C_memberTold_71 rfl rfl ?_
          refine q_getf (pc' := 75) (v := .int (s (2 + 2 * a1.toNatClampNeg) 3)) ja_C_memberTold_72 rfl (f_5_c (f_m1 (f_in (q_inr (l := 15) (by decide) h2 h6)))) ⟨by rw [f_5_k (f_m1 (f_in (q_inr (l := 15) (by decide) h2 h6)))], by decide⟩ (f_i (f_5_k (f_m1 (f_in (q_inr (l := 15) (by decide) h2 h6)))) rfl) ?_
          exact q_iret ja_C_memberTold_75 rfl rfl (k8 h2 h4 h6 h7 h8 h11 h12)
        refine q_swD (pc' := 76) ja_C_memberTold_19 [0, 1, 2, 3] (List.forall_mem_cons.mpr ⟨fun e => h7 (by rw [e]; decide), (List.forall_mem_cons.mpr ⟨fun e => h8 (by rw [e]; decide), (List.forall_mem_cons.mpr ⟨fun e => h11 (by rw [e]; decide), (List.forall_mem_cons.mpr ⟨fun e => h12 (by rw [e]; decide), (List.forall_mem_nil _)⟩)⟩)⟩)⟩) (by decide) rfl ?_
        refine q_bipush (pc' := 78) ja_C_memberTold_76 rfl (-2) (by decide) ?_
        exact q_iret ja_C_memberTold_78 rfl rfl (k9 h2 h4 h6 h7 h8 h11 h12)
set_option maxRecDepth 20000 in
theorem t_C_motion {G : jv_X} {d : Nat} {B : Option Value → jg_H → Prop} {s : jg_H} (a1 : Int32) (a2 : Int32)
    (k1 : a1 < 0 → B (some (.int (-100000))) s)
    (k2 : ¬ a1 < 0 → ¬ a1 < (s 60 0) → B (some (.int (-100000))) s)
    (k3 : ¬ a1 < 0 → a1 < (s 60 0) → ¬ a1 < (s 60 1) → B (some (.int (-100000))) s)
    (k4 : ¬ a1 < 0 → a1 < (s 60 0) → a1 < (s 60 1) → a2 = 0 → jv_in a1 8 = true)
    (k5 : ¬ a1 < 0 → a1 < (s 60 0) → a1 < (s 60 1) → a2 = 0 → B (some (.int (s 61 a1.toNatClampNeg))) s)
    (k6 : ¬ a1 < 0 → a1 < (s 60 0) → a1 < (s 60 1) → ¬ a2 = 0 → a2 = 1 → jv_in a1 8 = true)
    (k7 : ¬ a1 < 0 → a1 < (s 60 0) → a1 < (s 60 1) → ¬ a2 = 0 → a2 = 1 → B (some (.int (s 62 a1.toNatClampNeg))) s)
    (k8 : ¬ a1 < 0 → a1 < (s 60 0) → a1 < (s 60 1) → ¬ a2 = 0 → ¬ a2 = 1 → a2 = 2 → jv_in a1 8 = true)
    (k9 : ¬ a1 < 0 → a1 < (s 60 0) → a1 < (s 60 1) → ¬ a2 = 0 → ¬ a2 = 1 → a2 = 2 → B (some (.int (s 63 a1.toNatClampNeg))) s)
    (k10 : ¬ a1 < 0 → a1 < (s 60 0) → a1 < (s 60 1) → ¬ a2 = 0 → ¬ a2 = 1 → ¬ a2 = 2 → a2 = 3 → jv_in a1 8 = true)
    (k11 : ¬ a1 < 0 → a1 < (s 60 0) → a1 < (s 60 1) → ¬ a2 = 0 → ¬ a2 = 1 → ¬ a2 = 2 → a2 = 3 → B (some (.int (s 64 a1.toNatClampNeg))) s)
    (k12 : ¬ a1 < 0 → a1 < (s 60 0) → a1 < (s 60 1) → ¬ a2 = 0 → ¬ a2 = 1 → ¬ a2 = 2 → ¬ a2 = 3 → a2 = 4 → jv_in a1 8 = true)
    (k13 : ¬ a1 < 0 → a1 < (s 60 0) → a1 < (s 60 1) → ¬ a2 = 0 → ¬ a2 = 1 → ¬ a2 = 2 → ¬ a2 = 3 → a2 = 4 → jv_in a1 8 = true)
    (k14 : ¬ a1 < 0 → a1 < (s 60 0) → a1 < (s 60 1) → ¬ a2 = 0 → ¬ a2 = 1 → ¬ a2 = 2 → ¬ a2 = 3 → a2 = 4 → q_P G (d + 1) 87 [.ref 0, .int 0, .int (s 61 a1.toNatClampNeg), .int (s 62 a1.toNatClampNeg)] s (fun v t => q_W G (d + 1) jm_C_motion B 115 [some (.ref 0), some (.int a1), some (.int a2)] (v.toList ++ []) t))
    (k15 : ¬ a1 < 0 → a1 < (s 60 0) → a1 < (s 60 1) → ¬ a2 = 0 → ¬ a2 = 1 → ¬ a2 = 2 → ¬ a2 = 3 → ¬ a2 = 4 → B (some (.int (-100000))) s) :
    q_P G (d + 2) 103 [.ref 0, .int a1, .int a2] s B := by
  refine q_in (M := jm_C_motion) rfl (Nat.le_of_ble_eq_true rfl) (ls := [some (.ref 0), some (.int a1), some (.int a2)]) rfl ?_
  refine q_aload_n (pc' := 1) ja_C_motion_0 rfl rfl ?_
  refine q_getf (pc' := 4) (v := .ref 60) ja_C_motion_1 rfl (by decide) ⟨rfl, by decide⟩ rfl ?_
  refine q_iload_n (pc' := 5) ja_C_motion_4 rfl rfl ?_
  refine q_virt (pc' := 8) (c := 60) (as := [.int a1]) (r := []) ja_C_motion_5 rfl rfl rfl (by decide) ⟨rfl, by decide⟩ ?_
  refine q_in (M := jm_Motions_has) rfl (Nat.le_of_ble_eq_true rfl) (ls := [some (.ref 60), some (.int a1)]) rfl ?_
  refine q_iload_n (pc' := 1) ja_Motions_has_0 rfl rfl ?_
  refine q_if_lt (pc' := 4) ja_Motions_has_1 rfl ?_ ?_
  · intro h1
    refine q_iconst (pc' := 25) ja_Motions_has_24 rfl 0 (by decide) ?_
    refine q_iret ja_Motions_has_25 rfl (by decide) ?_
    show q_W _ _ _ _ 8 [some (.ref 0), some (.int a1), some (.int a2)] [.int 0] s
    refine q_if_ne (pc' := 11) ja_C_motion_8 rfl (fun h => absurd ((by decide : (0 : Int32) = 0)) h) (fun _ => ?_)
    refine q_ldcw (pc' := 14) ja_C_motion_11 rfl (-100000) (by decide) ?_
    exact q_iret ja_C_motion_14 rfl rfl (k1 h1)
  · intro h2
    refine q_iload_n (pc' := 5) ja_Motions_has_4 rfl rfl ?_
    refine q_aload_n (pc' := 6) ja_Motions_has_5 rfl rfl ?_
    refine q_getf (pc' := 9) (v := .int (s 60 0)) ja_Motions_has_6 rfl (by decide) ⟨rfl, by decide⟩ rfl ?_
    refine q_ic_ge (pc' := 12) ja_Motions_has_9 rfl ?_ ?_
    · intro h3
      refine q_iconst (pc' := 25) ja_Motions_has_24 rfl 0 (by decide) ?_
      refine q_iret ja_Motions_has_25 rfl (by decide) ?_
      show q_W _ _ _ _ 8 [some (.ref 0), some (.int a1), some (.int a2)] [.int 0] s
      refine q_if_ne (pc' := 11) ja_C_motion_8 rfl (fun h => absurd ((by decide : (0 : Int32) = 0)) h) (fun _ => ?_)
      refine q_ldcw (pc' := 14) ja_C_motion_11 rfl (-100000) (by decide) ?_
      exact q_iret ja_C_motion_14 rfl rfl (k2 h2 h3)
    · intro h4
      refine q_iload_n (pc' := 13) ja_Motions_has_12 rfl rfl ?_
      refine q_aload_n (pc' := 14) ja_Motions_has_13 rfl rfl ?_
      refine q_getf (pc' := 17) (v := .int (s 60 1)) ja_Motions_has_14 rfl (by decide) ⟨rfl, by decide⟩ rfl ?_
      refine q_ic_ge (pc' := 20) ja_Motions_has_17 rfl ?_ ?_
      · intro h5
        refine q_iconst (pc' := 25) ja_Motions_has_24 rfl 0 (by decide) ?_
        refine q_iret ja_Motions_has_25 rfl (by decide) ?_
        show q_W _ _ _ _ 8 [some (.ref 0), some (.int a1), some (.int a2)] [.int 0] s
        refine q_if_ne (pc' := 11) ja_C_motion_8 rfl (fun h => absurd ((by decide : (0 : Int32) = 0)) h) (fun _ => ?_)
        refine q_ldcw (pc' := 14) ja_C_motion_11 rfl (-100000) (by decide) ?_
        exact q_iret ja_C_motion_14 rfl rfl (k3 h2 h4 h5)
      · intro h6
        refine q_iconst (pc' := 21) ja_Motions_has_20 rfl 1 (by decide) ?_
        refine q_goto ja_Motions_has_21 ?_
        refine q_iret ja_Motions_has_25 rfl (by decide) ?_
        show q_W _ _ _ _ 8 [some (.ref 0), some (.int a1), some (.int a2)] [.int 1] s
        refine q_if_ne (pc' := 11) ja_C_motion_8 rfl (fun _ => ?_) (fun h => absurd h ((by decide : ¬ (1 : Int32) = 0)))
        refine q_iload_n (pc' := 16) ja_C_motion_15 rfl rfl ?_
        by_cases h7 : a2 = 0
        · refine q_swE (pc' := 52) ja_C_motion_16 (by rw [h7]; decide) (by rw [h7]; exact ⟨_, rfl, rfl⟩) ?_
          refine q_aload_n (pc' := 53) ja_C_motion_52 rfl rfl ?_
          refine q_getf (pc' := 56) (v := .ref 60) ja_C_motion_53 rfl (by decide) ⟨rfl, by decide⟩ rfl ?_
          refine q_getf (pc' := 59) (v := .ref 61) ja_C_motion_56 rfl (by decide) ⟨rfl, by decide⟩ rfl ?_
          refine q_iload_n (pc' := 60) ja_C_motion_59 rfl rfl ?_
          refine q_iald (pc' := 61) (v := .int (s 61 a1.toNatClampNeg)) ja_C_motion_60 rfl (by decide) (l := 8) rfl (k4 h2 h4 h6 h7) rfl ?_
          exact q_iret ja_C_motion_61 rfl rfl (k5 h2 h4 h6 h7)
        by_cases h8 : a2 = 1
        · refine q_swE (pc' := 62) ja_C_motion_16 (by rw [h8]; decide) (by rw [h8]; exact ⟨_, rfl, rfl⟩) ?_
          refine q_aload_n (pc' := 63) ja_C_motion_62 rfl rfl ?_
          refine q_getf (pc' := 66) (v := .ref 60) ja_C_motion_63 rfl (by decide) ⟨rfl, by decide⟩ rfl ?_
          refine q_getf (pc' := 69) (v := .ref 62) ja_C_motion_66 rfl (by decide) ⟨rfl, by decide⟩ rfl ?_
          refine q_iload_n (pc' := 70) ja_C_motion_69 rfl rfl ?_
          refine q_iald (pc' := 71) (v := .int (s 62 a1.toNatClampNeg)) ja_C_motion_70 rfl (by decide) (l := 8) rfl (k6 h2 h4 h6 h7 h8) rfl ?_
          exact q_iret ja_C_motion_71 rfl rfl (k7 h2 h4 h6 h7 h8)
        by_cases h9 : a2 = 2
        · refine q_swE (pc' := 72) ja_C_motion_16 (by rw [h9]; decide) (by rw [h9]; exact ⟨_, rfl, rfl⟩) ?_
          refine q_aload_n (pc' := 73) ja_C_motion_72 rfl rfl ?_
          refine q_getf (pc' := 76) (v := .ref 60) ja_C_motion_73 rfl (by decide) ⟨rfl, by decide⟩ rfl ?_
          refine q_getf (pc' := 79) (v := .ref 63) ja_C_motion_76 rfl (by decide) ⟨rfl, by decide⟩ rfl ?_
          refine q_iload_n (pc' := 80) ja_C_motion_79 rfl rfl ?_
          refine q_iald (pc' := 81) (v := .int (s 63 a1.toNatClampNeg)) ja_C_motion_80 rfl (by decide) (l := 8) rfl (k8 h2 h4 h6 h7 h8 h9) rfl ?_
          exact q_iret ja_C_motion_81 rfl rfl (k9 h2 h4 h6 h7 h8 h9)
        by_cases h10 : a2 = 3
        · refine q_swE (pc' := 82) ja_C_motion_16 (by rw [h10]; decide) (by rw [h10]; exact ⟨_, rfl, rfl⟩) ?_
          refine q_aload_n (pc' := 83) ja_C_motion_82 rfl rfl ?_
          refine q_getf (pc' := 86) (v := .ref 60) ja_C_motion_83 rfl (by decide) ⟨rfl, by decide⟩ rfl ?_
          refine q_getf (pc' := 89) (v := .ref 64) ja_C_motion_86 rfl (by decide) ⟨rfl, by decide⟩ rfl ?_
          refine q_iload_n (pc' := 90) ja_C_motion_89 rfl rfl ?_
          refine q_iald (pc' := 91) (v := .int (s 64 a1.toNatClampNeg)) ja_C_motion_90 rfl (by decide) (l := 8) rfl (k10 h2 h4 h6 h7 h8 h9 h10) rfl ?_
          exact q_iret ja_C_motion_91 rfl rfl (k11 h2 h4 h6 h7 h8 h9 h10)
        by_cases h11 : a2 = 4
        · refine q_swE (pc' := 92) ja_C_motion_16 (by rw [h11]; decide) (by rw [h11]; exact ⟨_, rfl, rfl⟩) ?_
          refine q_aload_n (pc' := 93) ja_C_motion_92 rfl rfl ?_
          refine q_iconst (pc' := 94) ja_C_motion_93 rfl 0 (by decide) ?_
          refine q_aload_n (pc' := 95) ja_C_motion_94 rfl rfl ?_
          refine q_getf (pc' := 98) (v := .ref 60) ja_C_motion_95 rfl (by decide) ⟨rfl, by decide⟩ rfl ?_
          refine q_getf (pc' := 101) (v := .ref 61) ja_C_motion_98 rfl (by decide) ⟨rfl, by decide⟩ rfl ?_
          refine q_iload_n (pc' := 102) ja_C_motion_101 rfl rfl ?_
          refine q_iald (pc' := 103) (v := .int (s 61 a1.toNatClampNeg)) ja_C_motion_102 rfl (by decide) (l := 8) rfl (k12 h2 h4 h6 h7 h8 h9 h10 h11) rfl ?_
          refine q_aload_n (pc' := 104) ja_C_motion_103 rfl rfl ?_
          refine q_getf (pc' := 107) (v := .ref 60) ja_C_motion_104 rfl (by decide) ⟨rfl, by decide⟩ rfl ?_
          refine q_getf (pc' := 110) (v := .ref 62) ja_C_motion_107 rfl (by decide) ⟨rfl, by decide⟩ rfl ?_
          refine q_iload_n (pc' := 111) ja_C_motion_110 rfl rfl ?_
          refine q_iald (pc' := 112) (v := .int (s 62 a1.toNatClampNeg)) ja_C_motion_111 rfl (by decide) (l := 8) rfl (k13 h2 h4 h6 h7 h8 h9 h10 h11) rfl ?_
          refine q_virt (pc' := 115) (c := 0) (as := [.int 0, .int (s 61 a1.toNatClampNeg), .int (s 62 a1.toNatClampNeg)]) (r := []) ja_C_motion_112 rfl rfl rfl (by decide) ⟨rfl, by decide⟩ ?_
          exact (k14 h2 h4 h6 h7 h8 h9 h10 h11)
        refine q_swD (pc' := 116) ja_C_motion_16 [0, 1, 2, 3, 4] (List.forall_mem_cons.mpr ⟨fun e => h7 (by rw [e]; decide), (List.forall_mem_cons.mpr ⟨fun e => h8 (by rw [e]; decide), (List.forall_mem_cons.mpr ⟨fun e => h9 (by rw [e]; decide), (List.forall_mem_cons.mpr ⟨fun e => h10 (by rw [e]; decide), (List.forall_mem_cons.mpr ⟨fun e => h11 (by rw [e]; decide), (List.forall_mem_nil _)⟩)⟩)⟩)⟩)⟩) (by decide) rfl ?_
        refine q_ldcw (pc' := 119) ja_C_motion_116 rfl (-100000) (by decide) ?_
        exact q_iret ja_C_motion_119 rfl rfl (k15 h2 h4 h6 h7 h8 h9 h10 h11)
set_option maxRecDepth 20000 in
theorem t_C_motion_115 {G : jv_X} {d : Nat} {B : Option Value → jg_H → Prop} {s : jg_H} (x1 : Int32) (x2 : Int32) (y0 : Int32)
    (k1 : B (some (.int y0)) s) :
    q_W G (d + 1) jm_C_motion B 115 [some (.ref 0), some (.int x1), some (.int x2)] [.int y0] s := by
  exact q_iret ja_C_motion_115 rfl rfl k1
set_option maxRecDepth 20000 in
theorem t_C_pair {G : jv_X} {d : Nat} {B : Option Value → jg_H → Prop} {s : jg_H} (a1 : Int32) (a2 : Int32)
    (k1 : a1 < 0 → B (some (.int (-2))) s)
    (k2 : ¬ a1 < 0 → ¬ a1 < (s 0 1) → B (some (.int (-2))) s)
    (k3 : ¬ a1 < 0 → a1 < (s 0 1) → ¬ a1 < 15 → B (some (.int (-2))) s)
    (k4 : ¬ a1 < 0 → a1 < (s 0 1) → a1 < 15 → a2 < 0 → B (some (.int (-2))) s)
    (k5 : ¬ a1 < 0 → a1 < (s 0 1) → a1 < 15 → ¬ a2 < 0 → ¬ a2 < (s 0 1) → B (some (.int (-2))) s)
    (k6 : ¬ a1 < 0 → a1 < (s 0 1) → a1 < 15 → ¬ a2 < 0 → a2 < (s 0 1) → ¬ a2 < 15 → B (some (.int (-2))) s)
    (k7 : ¬ a1 < 0 → a1 < (s 0 1) → a1 < 15 → ¬ a2 < 0 → a2 < (s 0 1) → a2 < 15 → ¬ a1 = a2 → ¬ (s (2 + 2 * a1.toNatClampNeg) 2) = (-1) → B (some (.int (-3))) s)
    (k8 : ¬ a1 < 0 → a1 < (s 0 1) → a1 < 15 → ¬ a2 < 0 → a2 < (s 0 1) → a2 < 15 → ¬ a1 = a2 → (s (2 + 2 * a1.toNatClampNeg) 2) = (-1) → (s (2 + 2 * a2.toNatClampNeg) 2) = (-1) → ∀ s1 : jg_H, s1 = jg_up s (2 + 2 * a1.toNatClampNeg) 2 a2 → ∀ s2 : jg_H, s2 = jg_up s1 (2 + 2 * a2.toNatClampNeg) 2 a1 → B (some (.int 1)) s2)
    (k9 : ¬ a1 < 0 → a1 < (s 0 1) → a1 < 15 → ¬ a2 < 0 → a2 < (s 0 1) → a2 < 15 → ¬ a1 = a2 → (s (2 + 2 * a1.toNatClampNeg) 2) = (-1) → ¬ (s (2 + 2 * a2.toNatClampNeg) 2) = (-1) → B (some (.int (-3))) s)
    (k10 : ¬ a1 < 0 → a1 < (s 0 1) → a1 < 15 → ¬ a2 < 0 → a2 < (s 0 1) → a2 < 15 → a1 = a2 → B (some (.int (-2))) s) :
    q_P G (d + 2) 46 [.ref 0, .int a1, .int a2] s B := by
  refine q_in (M := jm_C_pair) rfl (Nat.le_of_ble_eq_true rfl) (ls := [some (.ref 0), some (.int a1), some (.int a2)]) rfl ?_
  refine q_aload_n (pc' := 1) ja_C_pair_0 rfl rfl ?_
  refine q_iload_n (pc' := 2) ja_C_pair_1 rfl rfl ?_
  refine q_virt (pc' := 5) (c := 0) (as := [.int a1]) (r := []) ja_C_pair_2 rfl rfl rfl (by decide) ⟨rfl, by decide⟩ ?_
  refine q_in (M := jm_C_isMember) rfl (Nat.le_of_ble_eq_true rfl) (ls := [some (.ref 0), some (.int a1)]) rfl ?_
  refine q_iload_n (pc' := 1) ja_C_isMember_0 rfl rfl ?_
  refine q_if_lt (pc' := 4) ja_C_isMember_1 rfl ?_ ?_
  · intro h1
    refine q_iconst (pc' := 26) ja_C_isMember_25 rfl 0 (by decide) ?_
    refine q_iret ja_C_isMember_26 rfl (by decide) ?_
    show q_W _ _ _ _ 5 [some (.ref 0), some (.int a1), some (.int a2)] [.int 0] s
    refine q_if_eq (pc' := 8) ja_C_pair_5 rfl (fun _ => ?_) (fun h => absurd ((by decide : (0 : Int32) = 0)) h)
    refine q_bipush (pc' := 23) ja_C_pair_21 rfl (-2) (by decide) ?_
    exact q_iret ja_C_pair_23 rfl rfl (k1 h1)
  · intro h2
    refine q_iload_n (pc' := 5) ja_C_isMember_4 rfl rfl ?_
    refine q_aload_n (pc' := 6) ja_C_isMember_5 rfl rfl ?_
    refine q_getf (pc' := 9) (v := .int (s 0 1)) ja_C_isMember_6 rfl (by decide) ⟨rfl, by decide⟩ rfl ?_
    refine q_ic_ge (pc' := 12) ja_C_isMember_9 rfl ?_ ?_
    · intro h3
      refine q_iconst (pc' := 26) ja_C_isMember_25 rfl 0 (by decide) ?_
      refine q_iret ja_C_isMember_26 rfl (by decide) ?_
      show q_W _ _ _ _ 5 [some (.ref 0), some (.int a1), some (.int a2)] [.int 0] s
      refine q_if_eq (pc' := 8) ja_C_pair_5 rfl (fun _ => ?_) (fun h => absurd ((by decide : (0 : Int32) = 0)) h)
      refine q_bipush (pc' := 23) ja_C_pair_21 rfl (-2) (by decide) ?_
      exact q_iret ja_C_pair_23 rfl rfl (k2 h2 h3)
    · intro h4
      refine q_iload_n (pc' := 13) ja_C_isMember_12 rfl rfl ?_
      refine q_aload_n (pc' := 14) ja_C_isMember_13 rfl rfl ?_
      refine q_getf (pc' := 17) (v := .ref 1) ja_C_isMember_14 rfl (by decide) ⟨rfl, by decide⟩ rfl ?_
      refine q_alen (pc' := 18) ja_C_isMember_17 rfl (by decide) (kd := 16) (l := 15) rfl (by decide) (v := 15) (by decide) ?_
      refine q_ic_ge (pc' := 21) ja_C_isMember_18 rfl ?_ ?_
      · intro h5
        refine q_iconst (pc' := 26) ja_C_isMember_25 rfl 0 (by decide) ?_
        refine q_iret ja_C_isMember_26 rfl (by decide) ?_
        show q_W _ _ _ _ 5 [some (.ref 0), some (.int a1), some (.int a2)] [.int 0] s
        refine q_if_eq (pc' := 8) ja_C_pair_5 rfl (fun _ => ?_) (fun h => absurd ((by decide : (0 : Int32) = 0)) h)
        refine q_bipush (pc' := 23) ja_C_pair_21 rfl (-2) (by decide) ?_
        exact q_iret ja_C_pair_23 rfl rfl (k3 h2 h4 h5)
      · intro h6
        refine q_iconst (pc' := 22) ja_C_isMember_21 rfl 1 (by decide) ?_
        refine q_goto ja_C_isMember_22 ?_
        refine q_iret ja_C_isMember_26 rfl (by decide) ?_
        show q_W _ _ _ _ 5 [some (.ref 0), some (.int a1), some (.int a2)] [.int 1] s
        refine q_if_eq (pc' := 8) ja_C_pair_5 rfl (fun h => absurd h ((by decide : ¬ (1 : Int32) = 0))) (fun _ => ?_)
        refine q_aload_n (pc' := 9) ja_C_pair_8 rfl rfl ?_
        refine q_iload_n (pc' := 10) ja_C_pair_9 rfl rfl ?_
        refine q_virt (pc' := 13) (c := 0) (as := [.int a2]) (r := []) ja_C_pair_10 rfl rfl rfl (by decide) ⟨rfl, by decide⟩ ?_
        refine q_in (M := jm_C_isMember) rfl (Nat.le_of_ble_eq_true rfl) (ls := [some (.ref 0), some (.int a2)]) rfl ?_
        refine q_iload_n (pc' := 1) ja_C_isMember_0 rfl rfl ?_
        refine q_if_lt (pc' := 4) ja_C_isMember_1 rfl ?_ ?_
        · intro h7
          refine q_iconst (pc' := 26) ja_C_isMember_25 rfl 0 (by decide) ?_
          refine q_iret ja_C_isMember_26 rfl (by decide) ?_
          show q_W _ _ _ _ 13 [some (.ref 0), some (.int a1), some (.int a2)] [.int 0] s
          refine q_if_eq (pc' := 16) ja_C_pair_13 rfl (fun _ => ?_) (fun h => absurd ((by decide : (0 : Int32) = 0)) h)
          refine q_bipush (pc' := 23) ja_C_pair_21 rfl (-2) (by decide) ?_
          exact q_iret ja_C_pair_23 rfl rfl (k4 h2 h4 h6 h7)
        · intro h8
          refine q_iload_n (pc' := 5) ja_C_isMember_4 rfl rfl ?_
          refine q_aload_n (pc' := 6) ja_C_isMember_5 rfl rfl ?_
          refine q_getf (pc' := 9) (v := .int (s 0 1)) ja_C_isMember_6 rfl (by decide) ⟨rfl, by decide⟩ rfl ?_
          refine q_ic_ge (pc' := 12) ja_C_isMember_9 rfl ?_ ?_
          · intro h9
            refine q_iconst (pc' := 26) ja_C_isMember_25 rfl 0 (by decide) ?_
            refine q_iret ja_C_isMember_26 rfl (by decide) ?_
            show q_W _ _ _ _ 13 [some (.ref 0), some (.int a1), some (.int a2)] [.int 0] s
            refine q_if_eq (pc' := 16) ja_C_pair_13 rfl (fun _ => ?_) (fun h => absurd ((by decide : (0 : Int32) = 0)) h)
            refine q_bipush (pc' := 23) ja_C_pair_21 rfl (-2) (by decide) ?_
            exact q_iret ja_C_pair_23 rfl rfl (k5 h2 h4 h6 h8 h9)
          · intro h10
            refine q_iload_n (pc' := 13) ja_C_isMember_12 rfl rfl ?_
            refine q_aload_n (pc' := 14) ja_C_isMember_13 rfl rfl ?_
            refine q_getf (pc' := 17) (v := .ref 1) ja_C_isMember_14 rfl (by decide) ⟨rfl, by decide⟩ rfl ?_
            refine q_alen (pc' := 18) ja_C_isMember_17 rfl (by decide) (kd := 16) (l := 15) rfl (by decide) (v := 15) (by decide) ?_
            refine q_ic_ge (pc' := 21) ja_C_isMember_18 rfl ?_ ?_
            · intro h11
              refine q_iconst (pc' := 26) ja_C_isMember_25 rfl 0 (by decide) ?_
              refine q_iret ja_C_isMember_26 rfl (by decide) ?_
              show q_W _ _ _ _ 13 [some (.ref 0), some (.int a1), some (.int a2)] [.int 0] s
              refine q_if_eq (pc' := 16) ja_C_pair_13 rfl (fun _ => ?_) (fun h => absurd ((by decide : (0 : Int32) = 0)) h)
              refine q_bipush (pc' := 23) ja_C_pair_21 rfl (-2) (by decide) ?_
              exact q_iret ja_C_pair_23 rfl rfl (k6 h2 h4 h6 h8 h10 h11)
            · intro h12
              refine q_iconst (pc' := 22) ja_C_isMember_21 rfl 1 (by decide) ?_
              refine q_goto ja_C_isMember_22 ?_
              refine q_iret ja_C_isMember_26 rfl (by decide) ?_
              show q_W _ _ _ _ 13 [some (.ref 0), some (.int a1), some (.int a2)] [.int 1] s
              refine q_if_eq (pc' := 16) ja_C_pair_13 rfl (fun h => absurd h ((by decide : ¬ (1 : Int32) = 0))) (fun _ => ?_)
              refine q_iload_n (pc' := 17) ja_C_pair_16 rfl rfl ?_
              refine q_iload_n (pc' := 18) ja_C_pair_17 rfl rfl ?_
              refine q_ic_ne (pc' := 21) ja_C_pair_18 rfl ?_ ?_
              · intro h13
                refine q_aload_n (pc' := 25) ja_C_pair_24 rfl rfl ?_
                refine q_getf (pc' := 28) (v := .ref 1) ja_C_pair_25 rfl (by decide) ⟨rfl, by decide⟩ rfl ?_
                refine q_iload_n (pc' := 29) ja_C_pair_28 rfl rfl ?_
                refine q_aald (pc' := 30) (v := .ref (2 + 2 * a1.toNatClampNeg)) ja_C_pair_29 rfl (by decide) (kd := 16) (l := 15) rfl (by decide) (q_inr (l := 15) (by decide) h2 h6) (f_A1 (f_in (q_inr (l := 15) (by decide) h2 h6))) ?_
                refine q_getf (pc' := 33) (v := .int (s (2 + 2 * a1.toNatClampNeg) 2)) ja_C_pair_30 rfl (f_5_c (f_m1 (f_in (q_inr (l := 15) (by decide) h2 h6)))) ⟨by rw [f_5_k (f_m1 (f_in (q_inr (l := 15) (by decide) h2 h6)))], by decide⟩ (f_i (f_5_k (f_m1 (f_in (q_inr (l := 15) (by decide) h2 h6)))) rfl) ?_
                refine q_iconst (pc' := 34) ja_C_pair_33 rfl (-1) (by decide) ?_
                refine q_ic_ne (pc' := 37) ja_C_pair_34 rfl ?_ ?_
                · intro h14
                  refine q_bipush (pc' := 52) ja_C_pair_50 rfl (-3) (by decide) ?_
                  exact q_iret ja_C_pair_52 rfl rfl (k7 h2 h4 h6 h8 h10 h12 h13 h14)
                · intro h15
                  refine q_aload_n (pc' := 38) ja_C_pair_37 rfl rfl ?_
                  refine q_getf (pc' := 41) (v := .ref 1) ja_C_pair_38 rfl (by decide) ⟨rfl, by decide⟩ rfl ?_
                  refine q_iload_n (pc' := 42) ja_C_pair_41 rfl rfl ?_
                  refine q_aald (pc' := 43) (v := .ref (2 + 2 * a2.toNatClampNeg)) ja_C_pair_42 rfl (by decide) (kd := 16) (l := 15) rfl (by decide) (q_inr (l := 15) (by decide) h8 h12) (f_A1 (f_in (q_inr (l := 15) (by decide) h8 h12))) ?_
                  refine q_getf (pc' := 46) (v := .int (s (2 + 2 * a2.toNatClampNeg) 2)) ja_C_pair_43 rfl (f_5_c (f_m1 (f_in (q_inr (l := 15) (by decide) h8 h12)))) ⟨by rw [f_5_k (f_m1 (f_in (q_inr (l := 15) (by decide) h8 h12)))], by decide⟩ (f_i (f_5_k (f_m1 (f_in (q_inr (l := 15) (by decide) h8 h12)))) rfl) ?_
                  refine q_iconst (pc' := 47) ja_C_pair_46 rfl (-1) (by decide) ?_
                  refine q_ic_eq (pc' := 50) ja_C_pair_47 rfl ?_ ?_
                  · intro h16
                    refine q_aload_n (pc' := 54) ja_C_pair_53 rfl rfl ?_
                    refine q_getf (pc' := 57) (v := .ref 1) ja_C_pair_54 rfl (by decide) ⟨rfl, by decide⟩ rfl ?_
                    refine q_iload_n (pc' := 58) ja_C_pair_57 rfl rfl ?_
                    refine q_aald (pc' := 59) (v := .ref (2 + 2 * a1.toNatClampNeg)) ja_C_pair_58 rfl (by decide) (kd := 16) (l := 15) rfl (by decide) (q_inr (l := 15) (by decide) h2 h6) (f_A1 (f_in (q_inr (l := 15) (by decide) h2 h6))) ?_
                    refine q_iload_n (pc' := 60) ja_C_pair_59 rfl rfl ?_
                    refine q_putf (pc' := 63) ja_C_pair_60 rfl (f_5_c (f_m1 (f_in (q_inr (l := 15) (by decide) h2 h6)))) (by rw [f_5_k (f_m1 (f_in (q_inr (l := 15) (by decide) h2 h6)))]) rfl (by rw [f_5_k (f_m1 (f_in (q_inr (l := 15) (by decide) h2 h6)))]; rfl) ?_
                    intro s1 e1
                    refine q_aload_n (pc' := 64) ja_C_pair_63 rfl rfl ?_
                    refine q_getf (pc' := 67) (v := .ref 1) ja_C_pair_64 rfl (by decide) ⟨rfl, by decide⟩ rfl ?_
                    refine q_iload_n (pc' := 68) ja_C_pair_67 rfl rfl ?_
                    refine q_aald (pc' := 69) (v := .ref (2 + 2 * a2.toNatClampNeg)) ja_C_pair_68 rfl (by decide) (kd := 16) (l := 15) rfl (by decide) (q_inr (l := 15) (by decide) h8 h12) (f_A1 (f_in (q_inr (l := 15) (by decide) h8 h12))) ?_
                    refine q_iload_n (pc' := 70) ja_C_pair_69 rfl rfl ?_
                    refine q_putf (pc' := 73) ja_C_pair_70 rfl (f_5_c (f_m1 (f_in (q_inr (l := 15) (by decide) h8 h12)))) (by rw [f_5_k (f_m1 (f_in (q_inr (l := 15) (by decide) h8 h12)))]) rfl (by rw [f_5_k (f_m1 (f_in (q_inr (l := 15) (by decide) h8 h12)))]; rfl) ?_
                    intro s2 e2
                    refine q_iconst (pc' := 74) ja_C_pair_73 rfl 1 (by decide) ?_
                    exact q_iret ja_C_pair_74 rfl rfl (k8 h2 h4 h6 h8 h10 h12 h13 h15 h16 s1 e1 s2 e2)
                  · intro h17
                    refine q_bipush (pc' := 52) ja_C_pair_50 rfl (-3) (by decide) ?_
                    exact q_iret ja_C_pair_52 rfl rfl (k9 h2 h4 h6 h8 h10 h12 h13 h15 h17)
              · intro h18
                refine q_bipush (pc' := 23) ja_C_pair_21 rfl (-2) (by decide) ?_
                exact q_iret ja_C_pair_23 rfl rfl (k10 h2 h4 h6 h8 h10 h12 h18)
set_option maxRecDepth 20000 in
theorem t_C_part {G : jv_X} {d : Nat} {B : Option Value → jg_H → Prop} {s : jg_H} (a1 : Int32)
    (k1 : a1 < 0 → B (some (.int (-2))) s)
    (k2 : ¬ a1 < 0 → ¬ a1 < (s 0 1) → B (some (.int (-2))) s)
    (k3 : ¬ a1 < 0 → a1 < (s 0 1) → ¬ a1 < 15 → B (some (.int (-2))) s)
    (k4 : ¬ a1 < 0 → a1 < (s 0 1) → a1 < 15 → (s (2 + 2 * a1.toNatClampNeg) 2) < 0 → B (some (.int (-3))) s)
    (k5 : ¬ a1 < 0 → a1 < (s 0 1) → a1 < 15 → ¬ (s (2 + 2 * a1.toNatClampNeg) 2) < 0 → ¬ (s (2 + 2 * a1.toNatClampNeg) 2) < (s 0 1) → B (some (.int (-3))) s)
    (k6 : ¬ a1 < 0 → a1 < (s 0 1) → a1 < 15 → ¬ (s (2 + 2 * a1.toNatClampNeg) 2) < 0 → (s (2 + 2 * a1.toNatClampNeg) 2) < (s 0 1) → ¬ (s (2 + 2 * a1.toNatClampNeg) 2) < 15 → B (some (.int (-3))) s)
    (k7 : ¬ a1 < 0 → a1 < (s 0 1) → a1 < 15 → ¬ (s (2 + 2 * a1.toNatClampNeg) 2) < 0 → (s (2 + 2 * a1.toNatClampNeg) 2) < (s 0 1) → (s (2 + 2 * a1.toNatClampNeg) 2) < 15 → ∀ s1 : jg_H, s1 = jg_up s (2 + 2 * a1.toNatClampNeg) 2 (-1) → ∀ s2 : jg_H, s2 = jg_up s1 (2 + 2 * (s (2 + 2 * a1.toNatClampNeg) 2).toNatClampNeg) 2 (-1) → B (some (.int (s (2 + 2 * a1.toNatClampNeg) 2))) s2) :
    q_P G (d + 2) 47 [.ref 0, .int a1] s B := by
  refine q_in (M := jm_C_part) rfl (Nat.le_of_ble_eq_true rfl) (ls := [some (.ref 0), some (.int a1), none]) rfl ?_
  refine q_aload_n (pc' := 1) ja_C_part_0 rfl rfl ?_
  refine q_iload_n (pc' := 2) ja_C_part_1 rfl rfl ?_
  refine q_virt (pc' := 5) (c := 0) (as := [.int a1]) (r := []) ja_C_part_2 rfl rfl rfl (by decide) ⟨rfl, by decide⟩ ?_
  refine q_in (M := jm_C_isMember) rfl (Nat.le_of_ble_eq_true rfl) (ls := [some (.ref 0), some (.int a1)]) rfl ?_
  refine q_iload_n (pc' := 1) ja_C_isMember_0 rfl rfl ?_
  refine q_if_lt (pc' := 4) ja_C_isMember_1 rfl ?_ ?_
  · intro h1
    refine q_iconst (pc' := 26) ja_C_isMember_25 rfl 0 (by decide) ?_
    refine q_iret ja_C_isMember_26 rfl (by decide) ?_
    show q_W _ _ _ _ 5 [some (.ref 0), some (.int a1), none] [.int 0] s
    refine q_if_ne (pc' := 8) ja_C_part_5 rfl (fun h => absurd ((by decide : (0 : Int32) = 0)) h) (fun _ => ?_)
    refine q_bipush (pc' := 10) ja_C_part_8 rfl (-2) (by decide) ?_
    exact q_iret ja_C_part_10 rfl rfl (k1 h1)
  · intro h2
    refine q_iload_n (pc' := 5) ja_C_isMember_4 rfl rfl ?_
    refine q_aload_n (pc' := 6) ja_C_isMember_5 rfl rfl ?_
    refine q_getf (pc' := 9) (v := .int (s 0 1)) ja_C_isMember_6 rfl (by decide) ⟨rfl, by decide⟩ rfl ?_
    refine q_ic_ge (pc' := 12) ja_C_isMember_9 rfl ?_ ?_
    · intro h3
      refine q_iconst (pc' := 26) ja_C_isMember_25 rfl 0 (by decide) ?_
      refine q_iret ja_C_isMember_26 rfl (by decide) ?_
      show q_W _ _ _ _ 5 [some (.ref 0), some (.int a1), none] [.int 0] s
      refine q_if_ne (pc' := 8) ja_C_part_5 rfl (fun h => absurd ((by decide : (0 : Int32) = 0)) h) (fun _ => ?_)
      refine q_bipush (pc' := 10) ja_C_part_8 rfl (-2) (by decide) ?_
      exact q_iret ja_C_part_10 rfl rfl (k2 h2 h3)
    · intro h4
      refine q_iload_n (pc' := 13) ja_C_isMember_12 rfl rfl ?_
      refine q_aload_n (pc' := 14) ja_C_isMember_13 rfl rfl ?_
      refine q_getf (pc' := 17) (v := .ref 1) ja_C_isMember_14 rfl (by decide) ⟨rfl, by decide⟩ rfl ?_
      refine q_alen (pc' := 18) ja_C_isMember_17 rfl (by decide) (kd := 16) (l := 15) rfl (by decide) (v := 15) (by decide) ?_
      refine q_ic_ge (pc' := 21) ja_C_isMember_18 rfl ?_ ?_
      · intro h5
        refine q_iconst (pc' := 26) ja_C_isMember_25 rfl 0 (by decide) ?_
        refine q_iret ja_C_isMember_26 rfl (by decide) ?_
        show q_W _ _ _ _ 5 [some (.ref 0), some (.int a1), none] [.int 0] s
        refine q_if_ne (pc' := 8) ja_C_part_5 rfl (fun h => absurd ((by decide : (0 : Int32) = 0)) h) (fun _ => ?_)
        refine q_bipush (pc' := 10) ja_C_part_8 rfl (-2) (by decide) ?_
        exact q_iret ja_C_part_10 rfl rfl (k3 h2 h4 h5)
      · intro h6
        refine q_iconst (pc' := 22) ja_C_isMember_21 rfl 1 (by decide) ?_
        refine q_goto ja_C_isMember_22 ?_
        refine q_iret ja_C_isMember_26 rfl (by decide) ?_
        show q_W _ _ _ _ 5 [some (.ref 0), some (.int a1), none] [.int 1] s
        refine q_if_ne (pc' := 8) ja_C_part_5 rfl (fun _ => ?_) (fun h => absurd h ((by decide : ¬ (1 : Int32) = 0)))
        refine q_aload_n (pc' := 12) ja_C_part_11 rfl rfl ?_
        refine q_getf (pc' := 15) (v := .ref 1) ja_C_part_12 rfl (by decide) ⟨rfl, by decide⟩ rfl ?_
        refine q_iload_n (pc' := 16) ja_C_part_15 rfl rfl ?_
        refine q_aald (pc' := 17) (v := .ref (2 + 2 * a1.toNatClampNeg)) ja_C_part_16 rfl (by decide) (kd := 16) (l := 15) rfl (by decide) (q_inr (l := 15) (by decide) h2 h6) (f_A1 (f_in (q_inr (l := 15) (by decide) h2 h6))) ?_
        refine q_getf (pc' := 20) (v := .int (s (2 + 2 * a1.toNatClampNeg) 2)) ja_C_part_17 rfl (f_5_c (f_m1 (f_in (q_inr (l := 15) (by decide) h2 h6)))) ⟨by rw [f_5_k (f_m1 (f_in (q_inr (l := 15) (by decide) h2 h6)))], by decide⟩ (f_i (f_5_k (f_m1 (f_in (q_inr (l := 15) (by decide) h2 h6)))) rfl) ?_
        refine q_istore_n (pc' := 21) (ls' := [some (.ref 0), some (.int a1), some (.int (s (2 + 2 * a1.toNatClampNeg) 2))]) ja_C_part_20 rfl ⟨Nat.le_of_ble_eq_true rfl, rfl⟩ rfl ?_
        refine q_aload_n (pc' := 22) ja_C_part_21 rfl rfl ?_
        refine q_iload_n (pc' := 23) ja_C_part_22 rfl rfl ?_
        refine q_virt (pc' := 26) (c := 0) (as := [.int (s (2 + 2 * a1.toNatClampNeg) 2)]) (r := []) ja_C_part_23 rfl rfl rfl (by decide) ⟨rfl, by decide⟩ ?_
        refine q_in (M := jm_C_isMember) rfl (Nat.le_of_ble_eq_true rfl) (ls := [some (.ref 0), some (.int (s (2 + 2 * a1.toNatClampNeg) 2))]) rfl ?_
        refine q_iload_n (pc' := 1) ja_C_isMember_0 rfl rfl ?_
        refine q_if_lt (pc' := 4) ja_C_isMember_1 rfl ?_ ?_
        · intro h7
          refine q_iconst (pc' := 26) ja_C_isMember_25 rfl 0 (by decide) ?_
          refine q_iret ja_C_isMember_26 rfl (by decide) ?_
          show q_W _ _ _ _ 26 [some (.ref 0), some (.int a1), some (.int (s (2 + 2 * a1.toNatClampNeg) 2))] [.int 0] s
          refine q_if_ne (pc' := 29) ja_C_part_26 rfl (fun h => absurd ((by decide : (0 : Int32) = 0)) h) (fun _ => ?_)
          refine q_bipush (pc' := 31) ja_C_part_29 rfl (-3) (by decide) ?_
          exact q_iret ja_C_part_31 rfl rfl (k4 h2 h4 h6 h7)
        · intro h8
          refine q_iload_n (pc' := 5) ja_C_isMember_4 rfl rfl ?_
          refine q_aload_n (pc' := 6) ja_C_isMember_5 rfl rfl ?_
          refine q_getf (pc' := 9) (v := .int (s 0 1)) ja_C_isMember_6 rfl (by decide) ⟨rfl, by decide⟩ rfl ?_
          refine q_ic_ge (pc' := 12) ja_C_isMember_9 rfl ?_ ?_
          · intro h9
            refine q_iconst (pc' := 26) ja_C_isMember_25 rfl 0 (by decide) ?_
            refine q_iret ja_C_isMember_26 rfl (by decide) ?_
            show q_W _ _ _ _ 26 [some (.ref 0), some (.int a1), some (.int (s (2 + 2 * a1.toNatClampNeg) 2))] [.int 0] s
            refine q_if_ne (pc' := 29) ja_C_part_26 rfl (fun h => absurd ((by decide : (0 : Int32) = 0)) h) (fun _ => ?_)
            refine q_bipush (pc' := 31) ja_C_part_29 rfl (-3) (by decide) ?_
            exact q_iret ja_C_part_31 rfl rfl (k5 h2 h4 h6 h8 h9)
          · intro h10
            refine q_iload_n (pc' := 13) ja_C_isMember_12 rfl rfl ?_
            refine q_aload_n (pc' := 14) ja_C_isMember_13 rfl rfl ?_
            refine q_getf (pc' := 17) (v := .ref 1) ja_C_isMember_14 rfl (by decide) ⟨rfl, by decide⟩ rfl ?_
            refine q_alen (pc' := 18) ja_C_isMember_17 rfl (by decide) (kd := 16) (l := 15) rfl (by decide) (v := 15) (by decide) ?_
            refine q_ic_ge (pc' := 21) ja_C_isMember_18 rfl ?_ ?_
            · intro h11
              refine q_iconst (pc' := 26) ja_C_isMember_25 rfl 0 (by decide) ?_
              refine q_iret ja_C_isMember_26 rfl (by decide) ?_
              show q_W _ _ _ _ 26 [some (.ref 0), some (.int a1), some (.int (s (2 + 2 * a1.toNatClampNeg) 2))] [.int 0] s
              refine q_if_ne (pc' := 29) ja_C_part_26 rfl (fun h => absurd ((by decide : (0 : Int32) = 0)) h) (fun _ => ?_)
              refine q_bipush (pc' := 31) ja_C_part_29 rfl (-3) (by decide) ?_
              exact q_iret ja_C_part_31 rfl rfl (k6 h2 h4 h6 h8 h10 h11)
            · intro h12
              refine q_iconst (pc' := 22) ja_C_isMember_21 rfl 1 (by decide) ?_
              refine q_goto ja_C_isMember_22 ?_
              refine q_iret ja_C_isMember_26 rfl (by decide) ?_
              show q_W _ _ _ _ 26 [some (.ref 0), some (.int a1), some (.int (s (2 + 2 * a1.toNatClampNeg) 2))] [.int 1] s
              refine q_if_ne (pc' := 29) ja_C_part_26 rfl (fun _ => ?_) (fun h => absurd h ((by decide : ¬ (1 : Int32) = 0)))
              refine q_aload_n (pc' := 33) ja_C_part_32 rfl rfl ?_
              refine q_getf (pc' := 36) (v := .ref 1) ja_C_part_33 rfl (by decide) ⟨rfl, by decide⟩ rfl ?_
              refine q_iload_n (pc' := 37) ja_C_part_36 rfl rfl ?_
              refine q_aald (pc' := 38) (v := .ref (2 + 2 * a1.toNatClampNeg)) ja_C_part_37 rfl (by decide) (kd := 16) (l := 15) rfl (by decide) (q_inr (l := 15) (by decide) h2 h6) (f_A1 (f_in (q_inr (l := 15) (by decide) h2 h6))) ?_
              refine q_iconst (pc' := 39) ja_C_part_38 rfl (-1) (by decide) ?_
              refine q_putf (pc' := 42) ja_C_part_39 rfl (f_5_c (f_m1 (f_in (q_inr (l := 15) (by decide) h2 h6)))) (by rw [f_5_k (f_m1 (f_in (q_inr (l := 15) (by decide) h2 h6)))]) rfl (by rw [f_5_k (f_m1 (f_in (q_inr (l := 15) (by decide) h2 h6)))]; rfl) ?_
              intro s1 e1
              refine q_aload_n (pc' := 43) ja_C_part_42 rfl rfl ?_
              refine q_getf (pc' := 46) (v := .ref 1) ja_C_part_43 rfl (by decide) ⟨rfl, by decide⟩ rfl ?_
              refine q_iload_n (pc' := 47) ja_C_part_46 rfl rfl ?_
              refine q_aald (pc' := 48) (v := .ref (2 + 2 * (s (2 + 2 * a1.toNatClampNeg) 2).toNatClampNeg)) ja_C_part_47 rfl (by decide) (kd := 16) (l := 15) rfl (by decide) (q_inr (l := 15) (by decide) h8 h12) (f_A1 (f_in (q_inr (l := 15) (by decide) h8 h12))) ?_
              refine q_iconst (pc' := 49) ja_C_part_48 rfl (-1) (by decide) ?_
              refine q_putf (pc' := 52) ja_C_part_49 rfl (f_5_c (f_m1 (f_in (q_inr (l := 15) (by decide) h8 h12)))) (by rw [f_5_k (f_m1 (f_in (q_inr (l := 15) (by decide) h8 h12)))]) rfl (by rw [f_5_k (f_m1 (f_in (q_inr (l := 15) (by decide) h8 h12)))]; rfl) ?_
              intro s2 e2
              refine q_iload_n (pc' := 53) ja_C_part_52 rfl rfl ?_
              exact q_iret ja_C_part_53 rfl rfl (k7 h2 h4 h6 h8 h10 h12 s1 e1 s2 e2)
set_option maxRecDepth 20000 in
theorem t_C_partyOf {G : jv_X} {d : Nat} {B : Option Value → jg_H → Prop} {s : jg_H} (a1 : Int32)
    (k1 : a1 < 0 → B (some (.int 0)) s)
    (k2 : ¬ a1 < 0 → ¬ a1 < (s 0 1) → B (some (.int 0)) s)
    (k3 : ¬ a1 < 0 → a1 < (s 0 1) → ¬ a1 < 15 → B (some (.int 0)) s)
    (k4 : ¬ a1 < 0 → a1 < (s 0 1) → a1 < 15 → B (some (.int (s (2 + 2 * a1.toNatClampNeg) 0))) s) :
    q_P G (d + 2) 88 [.ref 0, .int a1] s B := by
  refine q_in (M := jm_C_partyOf) rfl (Nat.le_of_ble_eq_true rfl) (ls := [some (.ref 0), some (.int a1)]) rfl ?_
  refine q_aload_n (pc' := 1) ja_C_partyOf_0 rfl rfl ?_
  refine q_iload_n (pc' := 2) ja_C_partyOf_1 rfl rfl ?_
  refine q_virt (pc' := 5) (c := 0) (as := [.int a1]) (r := []) ja_C_partyOf_2 rfl rfl rfl (by decide) ⟨rfl, by decide⟩ ?_
  refine q_in (M := jm_C_isMember) rfl (Nat.le_of_ble_eq_true rfl) (ls := [some (.ref 0), some (.int a1)]) rfl ?_
  refine q_iload_n (pc' := 1) ja_C_isMember_0 rfl rfl ?_
  refine q_if_lt (pc' := 4) ja_C_isMember_1 rfl ?_ ?_
  · intro h1
    refine q_iconst (pc' := 26) ja_C_isMember_25 rfl 0 (by decide) ?_
    refine q_iret ja_C_isMember_26 rfl (by decide) ?_
    show q_W _ _ _ _ 5 [some (.ref 0), some (.int a1)] [.int 0] s
    refine q_if_eq (pc' := 8) ja_C_partyOf_5 rfl (fun _ => ?_) (fun h => absurd ((by decide : (0 : Int32) = 0)) h)
    refine q_iconst (pc' := 21) ja_C_partyOf_20 rfl 0 (by decide) ?_
    exact q_iret ja_C_partyOf_21 rfl rfl (k1 h1)
  · intro h2
    refine q_iload_n (pc' := 5) ja_C_isMember_4 rfl rfl ?_
    refine q_aload_n (pc' := 6) ja_C_isMember_5 rfl rfl ?_
    refine q_getf (pc' := 9) (v := .int (s 0 1)) ja_C_isMember_6 rfl (by decide) ⟨rfl, by decide⟩ rfl ?_
    refine q_ic_ge (pc' := 12) ja_C_isMember_9 rfl ?_ ?_
    · intro h3
      refine q_iconst (pc' := 26) ja_C_isMember_25 rfl 0 (by decide) ?_
      refine q_iret ja_C_isMember_26 rfl (by decide) ?_
      show q_W _ _ _ _ 5 [some (.ref 0), some (.int a1)] [.int 0] s
      refine q_if_eq (pc' := 8) ja_C_partyOf_5 rfl (fun _ => ?_) (fun h => absurd ((by decide : (0 : Int32) = 0)) h)
      refine q_iconst (pc' := 21) ja_C_partyOf_20 rfl 0 (by decide) ?_
      exact q_iret ja_C_partyOf_21 rfl rfl (k2 h2 h3)
    · intro h4
      refine q_iload_n (pc' := 13) ja_C_isMember_12 rfl rfl ?_
      refine q_aload_n (pc' := 14) ja_C_isMember_13 rfl rfl ?_
      refine q_getf (pc' := 17) (v := .ref 1) ja_C_isMember_14 rfl (by decide) ⟨rfl, by decide⟩ rfl ?_
      refine q_alen (pc' := 18) ja_C_isMember_17 rfl (by decide) (kd := 16) (l := 15) rfl (by decide) (v := 15) (by decide) ?_
      refine q_ic_ge (pc' := 21) ja_C_isMember_18 rfl ?_ ?_
      · intro h5
        refine q_iconst (pc' := 26) ja_C_isMember_25 rfl 0 (by decide) ?_
        refine q_iret ja_C_isMember_26 rfl (by decide) ?_
        show q_W _ _ _ _ 5 [some (.ref 0), some (.int a1)] [.int 0] s
        refine q_if_eq (pc' := 8) ja_C_partyOf_5 rfl (fun _ => ?_) (fun h => absurd ((by decide : (0 : Int32) = 0)) h)
        refine q_iconst (pc' := 21) ja_C_partyOf_20 rfl 0 (by decide) ?_
        exact q_iret ja_C_partyOf_21 rfl rfl (k3 h2 h4 h5)
      · intro h6
        refine q_iconst (pc' := 22) ja_C_isMember_21 rfl 1 (by decide) ?_
        refine q_goto ja_C_isMember_22 ?_
        refine q_iret ja_C_isMember_26 rfl (by decide) ?_
        show q_W _ _ _ _ 5 [some (.ref 0), some (.int a1)] [.int 1] s
        refine q_if_eq (pc' := 8) ja_C_partyOf_5 rfl (fun h => absurd h ((by decide : ¬ (1 : Int32) = 0))) (fun _ => ?_)
        refine q_aload_n (pc' := 9) ja_C_partyOf_8 rfl rfl ?_
        refine q_getf (pc' := 12) (v := .ref 1) ja_C_partyOf_9 rfl (by decide) ⟨rfl, by decide⟩ rfl ?_
        refine q_iload_n (pc' := 13) ja_C_partyOf_12 rfl rfl ?_
        refine q_aald (pc' := 14) (v := .ref (2 + 2 * a1.toNatClampNeg)) ja_C_partyOf_13 rfl (by decide) (kd := 16) (l := 15) rfl (by decide) (q_inr (l := 15) (by decide) h2 h6) (f_A1 (f_in (q_inr (l := 15) (by decide) h2 h6))) ?_
        refine q_getf (pc' := 17) (v := .int (s (2 + 2 * a1.toNatClampNeg) 0)) ja_C_partyOf_14 rfl (f_5_c (f_m1 (f_in (q_inr (l := 15) (by decide) h2 h6)))) ⟨by rw [f_5_k (f_m1 (f_in (q_inr (l := 15) (by decide) h2 h6)))], by decide⟩ (f_i (f_5_k (f_m1 (f_in (q_inr (l := 15) (by decide) h2 h6)))) rfl) ?_
        refine q_goto ja_C_partyOf_17 ?_
        exact q_iret ja_C_partyOf_21 rfl rfl (k4 h2 h4 h6)
set_option maxRecDepth 20000 in
theorem t_C_placeOnCalendar {G : jv_X} {d : Nat} {B : Option Value → jg_H → Prop} {s : jg_H} (a1 : Int32)
    (k1 : q_W G d jm_C_placeOnCalendar B 2 [some (.ref 0), some (.int a1), some (.int 0)] [] s) :
    q_P G (d + 1) 59 [.ref 0, .int a1] s B := by
  refine q_in (M := jm_C_placeOnCalendar) rfl (Nat.le_of_ble_eq_true rfl) (ls := [some (.ref 0), some (.int a1), none]) rfl ?_
  refine q_iconst (pc' := 1) ja_C_placeOnCalendar_0 rfl 0 (by decide) ?_
  refine q_istore_n (pc' := 2) (ls' := [some (.ref 0), some (.int a1), some (.int 0)]) ja_C_placeOnCalendar_1 rfl ⟨Nat.le_of_ble_eq_true rfl, rfl⟩ rfl ?_
  exact k1
set_option maxRecDepth 20000 in
theorem t_C_placeOnCalendar_2 {G : jv_X} {d : Nat} {B : Option Value → jg_H → Prop} {s : jg_H} (x1 : Int32) (x2 : Int32)
    (k1 : ¬ x2 < (s 0 5) → B (some (.int (-1))) s)
    (k2 : x2 < (s 0 5) → ¬ x2 < 8 → B (some (.int (-1))) s)
    (k3 : x2 < (s 0 5) → x2 < 8 → jv_in x2 8 = true)
    (k4 : x2 < (s 0 5) → x2 < 8 → ¬ (s 57 x2.toNatClampNeg) = x1 → q_W G d jm_C_placeOnCalendar B 2 [some (.ref 0), some (.int x1), some (.int (x2 + 1))] [] s)
    (k5 : x2 < (s 0 5) → x2 < 8 → (s 57 x2.toNatClampNeg) = x1 → B (some (.int x2)) s) :
    q_W G d jm_C_placeOnCalendar B 2 [some (.ref 0), some (.int x1), some (.int x2)] [] s := by
  refine q_iload_n (pc' := 3) ja_C_placeOnCalendar_2 rfl rfl ?_
  refine q_aload_n (pc' := 4) ja_C_placeOnCalendar_3 rfl rfl ?_
  refine q_getf (pc' := 7) (v := .int (s 0 5)) ja_C_placeOnCalendar_4 rfl (by decide) ⟨rfl, by decide⟩ rfl ?_
  refine q_ic_ge (pc' := 10) ja_C_placeOnCalendar_7 rfl ?_ ?_
  · intro h1
    refine q_iconst (pc' := 38) ja_C_placeOnCalendar_37 rfl (-1) (by decide) ?_
    exact q_iret ja_C_placeOnCalendar_38 rfl rfl (k1 h1)
  · intro h2
    refine q_iload_n (pc' := 11) ja_C_placeOnCalendar_10 rfl rfl ?_
    refine q_aload_n (pc' := 12) ja_C_placeOnCalendar_11 rfl rfl ?_
    refine q_getf (pc' := 15) (v := .ref 57) ja_C_placeOnCalendar_12 rfl (by decide) ⟨rfl, by decide⟩ rfl ?_
    refine q_alen (pc' := 16) ja_C_placeOnCalendar_15 rfl (by decide) (kd := 13) (l := 8) rfl (by decide) (v := 8) (by decide) ?_
    refine q_ic_ge (pc' := 19) ja_C_placeOnCalendar_16 rfl ?_ ?_
    · intro h3
      refine q_iconst (pc' := 38) ja_C_placeOnCalendar_37 rfl (-1) (by decide) ?_
      exact q_iret ja_C_placeOnCalendar_38 rfl rfl (k2 h2 h3)
    · intro h4
      refine q_aload_n (pc' := 20) ja_C_placeOnCalendar_19 rfl rfl ?_
      refine q_getf (pc' := 23) (v := .ref 57) ja_C_placeOnCalendar_20 rfl (by decide) ⟨rfl, by decide⟩ rfl ?_
      refine q_iload_n (pc' := 24) ja_C_placeOnCalendar_23 rfl rfl ?_
      refine q_iald (pc' := 25) (v := .int (s 57 x2.toNatClampNeg)) ja_C_placeOnCalendar_24 rfl (by decide) (l := 8) rfl (k3 h2 h4) rfl ?_
      refine q_iload_n (pc' := 26) ja_C_placeOnCalendar_25 rfl rfl ?_
      refine q_ic_ne (pc' := 29) ja_C_placeOnCalendar_26 rfl ?_ ?_
      · intro h5
        refine q_iinc (pc' := 34) (ls' := [some (.ref 0), some (.int x1), some (.int (x2 + 1))]) ja_C_placeOnCalendar_31 rfl rfl (x2 + 1) rfl ⟨Nat.le_of_ble_eq_true rfl, rfl⟩ rfl ?_
        refine q_goto ja_C_placeOnCalendar_34 ?_
        exact (k4 h2 h4 h5)
      · intro h6
        refine q_iload_n (pc' := 30) ja_C_placeOnCalendar_29 rfl rfl ?_
        exact q_iret ja_C_placeOnCalendar_30 rfl rfl (k5 h2 h4 h6)
set_option maxRecDepth 20000 in
theorem t_C_putOnCalendar {G : jv_X} {d : Nat} {B : Option Value → jg_H → Prop} {s : jg_H} (a1 : Int32)
    (k1 : a1 < 0 → B none s)
    (k2 : ¬ a1 < 0 → ¬ a1 < (s 0 3) → B none s)
    (k3 : ¬ a1 < 0 → a1 < (s 0 3) → ¬ a1 < 8 → B none s)
    (k4 : ¬ a1 < 0 → a1 < (s 0 3) → a1 < 8 → (s 0 5) < 8 → jv_in (s 0 5) 8 = true)
    (k5 : ¬ a1 < 0 → a1 < (s 0 3) → a1 < 8 → (s 0 5) < 8 → ∀ s1 : jg_H, s1 = jg_up s 57 (s 0 5).toNatClampNeg a1 → ∀ s2 : jg_H, s2 = jg_up s1 0 5 ((s1 0 5) + 1) → ∀ s3 : jg_H, s3 = jg_up s2 (33 + 3 * a1.toNatClampNeg) 0 1 → B none s3)
    (k6 : ¬ a1 < 0 → a1 < (s 0 3) → a1 < 8 → ¬ (s 0 5) < 8 → B none s) :
    q_P G (d + 2) 66 [.ref 0, .int a1] s B := by
  refine q_in (M := jm_C_putOnCalendar) rfl (Nat.le_of_ble_eq_true rfl) (ls := [some (.ref 0), some (.int a1)]) rfl ?_
  refine q_aload_n (pc' := 1) ja_C_putOnCalendar_0 rfl rfl ?_
  refine q_iload_n (pc' := 2) ja_C_putOnCalendar_1 rfl rfl ?_
  refine q_virt (pc' := 5) (c := 0) (as := [.int a1]) (r := []) ja_C_putOnCalendar_2 rfl rfl rfl (by decide) ⟨rfl, by decide⟩ ?_
  refine q_in (M := jm_C_isBill) rfl (Nat.le_of_ble_eq_true rfl) (ls := [some (.ref 0), some (.int a1)]) rfl ?_
  refine q_iload_n (pc' := 1) ja_C_isBill_0 rfl rfl ?_
  refine q_if_lt (pc' := 4) ja_C_isBill_1 rfl ?_ ?_
  · intro h1
    refine q_iconst (pc' := 26) ja_C_isBill_25 rfl 0 (by decide) ?_
    refine q_iret ja_C_isBill_26 rfl (by decide) ?_
    show q_W _ _ _ _ 5 [some (.ref 0), some (.int a1)] [.int 0] s
    refine q_if_eq (pc' := 8) ja_C_putOnCalendar_5 rfl (fun _ => ?_) (fun h => absurd ((by decide : (0 : Int32) = 0)) h)
    exact q_vret ja_C_putOnCalendar_20 rfl (k1 h1)
  · intro h2
    refine q_iload_n (pc' := 5) ja_C_isBill_4 rfl rfl ?_
    refine q_aload_n (pc' := 6) ja_C_isBill_5 rfl rfl ?_
    refine q_getf (pc' := 9) (v := .int (s 0 3)) ja_C_isBill_6 rfl (by decide) ⟨rfl, by decide⟩ rfl ?_
    refine q_ic_ge (pc' := 12) ja_C_isBill_9 rfl ?_ ?_
    · intro h3
      refine q_iconst (pc' := 26) ja_C_isBill_25 rfl 0 (by decide) ?_
      refine q_iret ja_C_isBill_26 rfl (by decide) ?_
      show q_W _ _ _ _ 5 [some (.ref 0), some (.int a1)] [.int 0] s
      refine q_if_eq (pc' := 8) ja_C_putOnCalendar_5 rfl (fun _ => ?_) (fun h => absurd ((by decide : (0 : Int32) = 0)) h)
      exact q_vret ja_C_putOnCalendar_20 rfl (k2 h2 h3)
    · intro h4
      refine q_iload_n (pc' := 13) ja_C_isBill_12 rfl rfl ?_
      refine q_aload_n (pc' := 14) ja_C_isBill_13 rfl rfl ?_
      refine q_getf (pc' := 17) (v := .ref 32) ja_C_isBill_14 rfl (by decide) ⟨rfl, by decide⟩ rfl ?_
      refine q_alen (pc' := 18) ja_C_isBill_17 rfl (by decide) (kd := 17) (l := 8) rfl (by decide) (v := 8) (by decide) ?_
      refine q_ic_ge (pc' := 21) ja_C_isBill_18 rfl ?_ ?_
      · intro h5
        refine q_iconst (pc' := 26) ja_C_isBill_25 rfl 0 (by decide) ?_
        refine q_iret ja_C_isBill_26 rfl (by decide) ?_
        show q_W _ _ _ _ 5 [some (.ref 0), some (.int a1)] [.int 0] s
        refine q_if_eq (pc' := 8) ja_C_putOnCalendar_5 rfl (fun _ => ?_) (fun h => absurd ((by decide : (0 : Int32) = 0)) h)
        exact q_vret ja_C_putOnCalendar_20 rfl (k3 h2 h4 h5)
      · intro h6
        refine q_iconst (pc' := 22) ja_C_isBill_21 rfl 1 (by decide) ?_
        refine q_goto ja_C_isBill_22 ?_
        refine q_iret ja_C_isBill_26 rfl (by decide) ?_
        show q_W _ _ _ _ 5 [some (.ref 0), some (.int a1)] [.int 1] s
        refine q_if_eq (pc' := 8) ja_C_putOnCalendar_5 rfl (fun h => absurd h ((by decide : ¬ (1 : Int32) = 0))) (fun _ => ?_)
        refine q_aload_n (pc' := 9) ja_C_putOnCalendar_8 rfl rfl ?_
        refine q_getf (pc' := 12) (v := .int (s 0 5)) ja_C_putOnCalendar_9 rfl (by decide) ⟨rfl, by decide⟩ rfl ?_
        refine q_aload_n (pc' := 13) ja_C_putOnCalendar_12 rfl rfl ?_
        refine q_getf (pc' := 16) (v := .ref 57) ja_C_putOnCalendar_13 rfl (by decide) ⟨rfl, by decide⟩ rfl ?_
        refine q_alen (pc' := 17) ja_C_putOnCalendar_16 rfl (by decide) (kd := 13) (l := 8) rfl (by decide) (v := 8) (by decide) ?_
        refine q_ic_lt (pc' := 20) ja_C_putOnCalendar_17 rfl ?_ ?_
        · intro h7
          refine q_aload_n (pc' := 22) ja_C_putOnCalendar_21 rfl rfl ?_
          refine q_getf (pc' := 25) (v := .ref 57) ja_C_putOnCalendar_22 rfl (by decide) ⟨rfl, by decide⟩ rfl ?_
          refine q_aload_n (pc' := 26) ja_C_putOnCalendar_25 rfl rfl ?_
          refine q_getf (pc' := 29) (v := .int (s 0 5)) ja_C_putOnCalendar_26 rfl (by decide) ⟨rfl, by decide⟩ rfl ?_
          refine q_iload_n (pc' := 30) ja_C_putOnCalendar_29 rfl rfl ?_
          refine q_iast (pc' := 31) ja_C_putOnCalendar_30 rfl (by decide) (l := 8) rfl (k4 h2 h4 h6 h7) ?_
          intro s1 e1
          refine q_aload_n (pc' := 32) ja_C_putOnCalendar_31 rfl rfl ?_
          refine q_dup (pc' := 33) ja_C_putOnCalendar_32 rfl rfl ?_
          refine q_getf (pc' := 36) (v := .int (s1 0 5)) ja_C_putOnCalendar_33 rfl (by decide) ⟨rfl, by decide⟩ rfl ?_
          refine q_iconst (pc' := 37) ja_C_putOnCalendar_36 rfl 1 (by decide) ?_
          refine q_iadd (pc' := 38) ja_C_putOnCalendar_37 rfl ?_
          refine q_putf (pc' := 41) ja_C_putOnCalendar_38 rfl (by decide) rfl rfl rfl ?_
          intro s2 e2
          refine q_aload_n (pc' := 42) ja_C_putOnCalendar_41 rfl rfl ?_
          refine q_getf (pc' := 45) (v := .ref 32) ja_C_putOnCalendar_42 rfl (by decide) ⟨rfl, by decide⟩ rfl ?_
          refine q_iload_n (pc' := 46) ja_C_putOnCalendar_45 rfl rfl ?_
          refine q_aald (pc' := 47) (v := .ref (33 + 3 * a1.toNatClampNeg)) ja_C_putOnCalendar_46 rfl (by decide) (kd := 17) (l := 8) rfl (by decide) (q_inr (l := 8) (by decide) h2 h6) (f_A32 (f_in (q_inr (l := 8) (by decide) h2 h6))) ?_
          refine q_iconst (pc' := 48) ja_C_putOnCalendar_47 rfl 1 (by decide) ?_
          refine q_putf (pc' := 51) ja_C_putOnCalendar_48 rfl (f_1_c (f_m32 (f_in (q_inr (l := 8) (by decide) h2 h6)))) (by rw [f_1_k (f_m32 (f_in (q_inr (l := 8) (by decide) h2 h6)))]) rfl (by rw [f_1_k (f_m32 (f_in (q_inr (l := 8) (by decide) h2 h6)))]; rfl) ?_
          intro s3 e3
          exact q_vret ja_C_putOnCalendar_51 rfl (k5 h2 h4 h6 h7 s1 e1 s2 e2 s3 e3)
        · intro h8
          exact q_vret ja_C_putOnCalendar_20 rfl (k6 h2 h4 h6 h8)
set_option maxRecDepth 20000 in
theorem t_C_report {G : jv_X} {d : Nat} {B : Option Value → jg_H → Prop} {s : jg_H} (a1 : Int32)
    (k1 : a1 < 0 → B (some (.int (-2))) s)
    (k2 : ¬ a1 < 0 → ¬ a1 < (s 0 3) → B (some (.int (-2))) s)
    (k3 : ¬ a1 < 0 → a1 < (s 0 3) → ¬ a1 < 8 → B (some (.int (-2))) s)
    (k4 : ¬ a1 < 0 → a1 < (s 0 3) → a1 < 8 → (s (33 + 3 * a1.toNatClampNeg) 0) = 0 → (s 0 5) < 8 → jv_in (s 0 5) 8 = true)
    (k5 : ¬ a1 < 0 → a1 < (s 0 3) → a1 < 8 → (s (33 + 3 * a1.toNatClampNeg) 0) = 0 → (s 0 5) < 8 → ∀ s1 : jg_H, s1 = jg_up s 57 (s 0 5).toNatClampNeg a1 → ∀ s2 : jg_H, s2 = jg_up s1 0 5 ((s1 0 5) + 1) → ∀ s3 : jg_H, s3 = jg_up s2 (33 + 3 * a1.toNatClampNeg) 0 1 → B (some (.int ((s3 0 5) - 1))) s3)
    (k6 : ¬ a1 < 0 → a1 < (s 0 3) → a1 < 8 → (s (33 + 3 * a1.toNatClampNeg) 0) = 0 → ¬ (s 0 5) < 8 → B (some (.int ((s 0 5) - 1))) s)
    (k7 : ¬ a1 < 0 → a1 < (s 0 3) → a1 < 8 → ¬ (s (33 + 3 * a1.toNatClampNeg) 0) = 0 → B (some (.int (-3))) s) :
    q_P G (d + 3) 65 [.ref 0, .int a1] s B := by
  refine q_in (M := jm_C_report) rfl (Nat.le_of_ble_eq_true rfl) (ls := [some (.ref 0), some (.int a1)]) rfl ?_
  refine q_aload_n (pc' := 1) ja_C_report_0 rfl rfl ?_
  refine q_iload_n (pc' := 2) ja_C_report_1 rfl rfl ?_
  refine q_virt (pc' := 5) (c := 0) (as := [.int a1]) (r := []) ja_C_report_2 rfl rfl rfl (by decide) ⟨rfl, by decide⟩ ?_
  refine q_in (M := jm_C_isBill) rfl (Nat.le_of_ble_eq_true rfl) (ls := [some (.ref 0), some (.int a1)]) rfl ?_
  refine q_iload_n (pc' := 1) ja_C_isBill_0 rfl rfl ?_
  refine q_if_lt (pc' := 4) ja_C_isBill_1 rfl ?_ ?_
  · intro h1
    refine q_iconst (pc' := 26) ja_C_isBill_25 rfl 0 (by decide) ?_
    refine q_iret ja_C_isBill_26 rfl (by decide) ?_
    show q_W _ _ _ _ 5 [some (.ref 0), some (.int a1)] [.int 0] s
    refine q_if_ne (pc' := 8) ja_C_report_5 rfl (fun h => absurd ((by decide : (0 : Int32) = 0)) h) (fun _ => ?_)
    refine q_bipush (pc' := 10) ja_C_report_8 rfl (-2) (by decide) ?_
    exact q_iret ja_C_report_10 rfl rfl (k1 h1)
  · intro h2
    refine q_iload_n (pc' := 5) ja_C_isBill_4 rfl rfl ?_
    refine q_aload_n (pc' := 6) ja_C_isBill_5 rfl rfl ?_
    refine q_getf (pc' := 9) (v := .int (s 0 3)) ja_C_isBill_6 rfl (by decide) ⟨rfl, by decide⟩ rfl ?_
    refine q_ic_ge (pc' := 12) ja_C_isBill_9 rfl ?_ ?_
    · intro h3
      refine q_iconst (pc' := 26) ja_C_isBill_25 rfl 0 (by decide) ?_
      refine q_iret ja_C_isBill_26 rfl (by decide) ?_
      show q_W _ _ _ _ 5 [some (.ref 0), some (.int a1)] [.int 0] s
      refine q_if_ne (pc' := 8) ja_C_report_5 rfl (fun h => absurd ((by decide : (0 : Int32) = 0)) h) (fun _ => ?_)
      refine q_bipush (pc' := 10) ja_C_report_8 rfl (-2) (by decide) ?_
      exact q_iret ja_C_report_10 rfl rfl (k2 h2 h3)
    · intro h4
      refine q_iload_n (pc' := 13) ja_C_isBill_12 rfl rfl ?_
      refine q_aload_n (pc' := 14) ja_C_isBill_13 rfl rfl ?_
      refine q_getf (pc' := 17) (v := .ref 32) ja_C_isBill_14 rfl (by decide) ⟨rfl, by decide⟩ rfl ?_
      refine q_alen (pc' := 18) ja_C_isBill_17 rfl (by decide) (kd := 17) (l := 8) rfl (by decide) (v := 8) (by decide) ?_
      refine q_ic_ge (pc' := 21) ja_C_isBill_18 rfl ?_ ?_
      · intro h5
        refine q_iconst (pc' := 26) ja_C_isBill_25 rfl 0 (by decide) ?_
        refine q_iret ja_C_isBill_26 rfl (by decide) ?_
        show q_W _ _ _ _ 5 [some (.ref 0), some (.int a1)] [.int 0] s
        refine q_if_ne (pc' := 8) ja_C_report_5 rfl (fun h => absurd ((by decide : (0 : Int32) = 0)) h) (fun _ => ?_)
        refine q_bipush (pc' := 10) ja_C_report_8 rfl (-2) (by decide) ?_
        exact q_iret ja_C_report_10 rfl rfl (k3 h2 h4 h5)
      · intro h6
        refine q_iconst (pc' := 22) ja_C_isBill_21 rfl 1 (by decide) ?_
        refine q_goto ja_C_isBill_22 ?_
        refine q_iret ja_C_isBill_26 rfl (by decide) ?_
        show q_W _ _ _ _ 5 [some (.ref 0), some (.int a1)] [.int 1] s
        refine q_if_ne (pc' := 8) ja_C_report_5 rfl (fun _ => ?_) (fun h => absurd h ((by decide : ¬ (1 : Int32) = 0)))
        refine q_aload_n (pc' := 12) ja_C_report_11 rfl rfl ?_
        refine q_getf (pc' := 15) (v := .ref 32) ja_C_report_12 rfl (by decide) ⟨rfl, by decide⟩ rfl ?_
        refine q_iload_n (pc' := 16) ja_C_report_15 rfl rfl ?_
        refine q_aald (pc' := 17) (v := .ref (33 + 3 * a1.toNatClampNeg)) ja_C_report_16 rfl (by decide) (kd := 17) (l := 8) rfl (by decide) (q_inr (l := 8) (by decide) h2 h6) (f_A32 (f_in (q_inr (l := 8) (by decide) h2 h6))) ?_
        refine q_getf (pc' := 20) (v := .int (s (33 + 3 * a1.toNatClampNeg) 0)) ja_C_report_17 rfl (f_1_c (f_m32 (f_in (q_inr (l := 8) (by decide) h2 h6)))) ⟨by rw [f_1_k (f_m32 (f_in (q_inr (l := 8) (by decide) h2 h6)))], by decide⟩ (f_i (f_1_k (f_m32 (f_in (q_inr (l := 8) (by decide) h2 h6)))) rfl) ?_
        refine q_if_eq (pc' := 23) ja_C_report_20 rfl ?_ ?_
        · intro h7
          refine q_aload_n (pc' := 27) ja_C_report_26 rfl rfl ?_
          refine q_iload_n (pc' := 28) ja_C_report_27 rfl rfl ?_
          refine q_virt (pc' := 31) (c := 0) (as := [.int a1]) (r := []) ja_C_report_28 rfl rfl rfl (by decide) ⟨rfl, by decide⟩ ?_
          refine q_in (M := jm_C_putOnCalendar) rfl (Nat.le_of_ble_eq_true rfl) (ls := [some (.ref 0), some (.int a1)]) rfl ?_
          refine q_aload_n (pc' := 1) ja_C_putOnCalendar_0 rfl rfl ?_
          refine q_iload_n (pc' := 2) ja_C_putOnCalendar_1 rfl rfl ?_
          refine q_virt (pc' := 5) (c := 0) (as := [.int a1]) (r := []) ja_C_putOnCalendar_2 rfl rfl rfl (by decide) ⟨rfl, by decide⟩ ?_
          refine q_in (M := jm_C_isBill) rfl (Nat.le_of_ble_eq_true rfl) (ls := [some (.ref 0), some (.int a1)]) rfl ?_
          refine q_iload_n (pc' := 1) ja_C_isBill_0 rfl rfl ?_
          refine q_if_lt (pc' := 4) ja_C_isBill_1 rfl (fun h => absurd h (h2)) (fun _ => ?_)
          refine q_iload_n (pc' := 5) ja_C_isBill_4 rfl rfl ?_
          refine q_aload_n (pc' := 6) ja_C_isBill_5 rfl rfl ?_
          refine q_getf (pc' := 9) (v := .int (s 0 3)) ja_C_isBill_6 rfl (by decide) ⟨rfl, by decide⟩ rfl ?_
          refine q_ic_ge (pc' := 12) ja_C_isBill_9 rfl (fun h => absurd (h4) h) (fun _ => ?_)
          refine q_iload_n (pc' := 13) ja_C_isBill_12 rfl rfl ?_
          refine q_aload_n (pc' := 14) ja_C_isBill_13 rfl rfl ?_
          refine q_getf (pc' := 17) (v := .ref 32) ja_C_isBill_14 rfl (by decide) ⟨rfl, by decide⟩ rfl ?_
          refine q_alen (pc' := 18) ja_C_isBill_17 rfl (by decide) (kd := 17) (l := 8) rfl (by decide) (v := 8) (by decide) ?_
          refine q_ic_ge (pc' := 21) ja_C_isBill_18 rfl (fun h => absurd (h6) h) (fun _ => ?_)
          refine q_iconst (pc' := 22) ja_C_isBill_21 rfl 1 (by decide) ?_
          refine q_goto ja_C_isBill_22 ?_
          refine q_iret ja_C_isBill_26 rfl (by decide) ?_
          show q_W _ _ _ _ 5 [some (.ref 0), some (.int a1)] [.int 1] s
          refine q_if_eq (pc' := 8) ja_C_putOnCalendar_5 rfl (fun h => absurd h ((by decide : ¬ (1 : Int32) = 0))) (fun _ => ?_)
          refine q_aload_n (pc' := 9) ja_C_putOnCalendar_8 rfl rfl ?_
          refine q_getf (pc' := 12) (v := .int (s 0 5)) ja_C_putOnCalendar_9 rfl (by decide) ⟨rfl, by decide⟩ rfl ?_
          refine q_aload_n (pc' := 13) ja_C_putOnCalendar_12 rfl rfl ?_
          refine q_getf (pc' := 16) (v := .ref 57) ja_C_putOnCalendar_13 rfl (by decide) ⟨rfl, by decide⟩ rfl ?_
          refine q_alen (pc' := 17) ja_C_putOnCalendar_16 rfl (by decide) (kd := 13) (l := 8) rfl (by decide) (v := 8) (by decide) ?_
          refine q_ic_lt (pc' := 20) ja_C_putOnCalendar_17 rfl ?_ ?_
          · intro h8
            refine q_aload_n (pc' := 22) ja_C_putOnCalendar_21 rfl rfl ?_
            refine q_getf (pc' := 25) (v := .ref 57) ja_C_putOnCalendar_22 rfl (by decide) ⟨rfl, by decide⟩ rfl ?_
            refine q_aload_n (pc' := 26) ja_C_putOnCalendar_25 rfl rfl ?_
            refine q_getf (pc' := 29) (v := .int (s 0 5)) ja_C_putOnCalendar_26 rfl (by decide) ⟨rfl, by decide⟩ rfl ?_
            refine q_iload_n (pc' := 30) ja_C_putOnCalendar_29 rfl rfl ?_
            refine q_iast (pc' := 31) ja_C_putOnCalendar_30 rfl (by decide) (l := 8) rfl (k4 h2 h4 h6 h7 h8) ?_
            intro s1 e1
            refine q_aload_n (pc' := 32) ja_C_putOnCalendar_31 rfl rfl ?_
            refine q_dup (pc' := 33) ja_C_putOnCalendar_32 rfl rfl ?_
            refine q_getf (pc' := 36) (v := .int (s1 0 5)) ja_C_putOnCalendar_33 rfl (by decide) ⟨rfl, by decide⟩ rfl ?_
            refine q_iconst (pc' := 37) ja_C_putOnCalendar_36 rfl 1 (by decide) ?_
            refine q_iadd (pc' := 38) ja_C_putOnCalendar_37 rfl ?_
            refine q_putf (pc' := 41) ja_C_putOnCalendar_38 rfl (by decide) rfl rfl rfl ?_
            intro s2 e2
            refine q_aload_n (pc' := 42) ja_C_putOnCalendar_41 rfl rfl ?_
            refine q_getf (pc' := 45) (v := .ref 32) ja_C_putOnCalendar_42 rfl (by decide) ⟨rfl, by decide⟩ rfl ?_
            refine q_iload_n (pc' := 46) ja_C_putOnCalendar_45 rfl rfl ?_
            refine q_aald (pc' := 47) (v := .ref (33 + 3 * a1.toNatClampNeg)) ja_C_putOnCalendar_46 rfl (by decide) (kd := 17) (l := 8) rfl (by decide) (q_inr (l := 8) (by decide) h2 h6) (f_A32 (f_in (q_inr (l := 8) (by decide) h2 h6))) ?_
            refine q_iconst (pc' := 48) ja_C_putOnCalendar_47 rfl 1 (by decide) ?_
            refine q_putf (pc' := 51) ja_C_putOnCalendar_48 rfl (f_1_c (f_m32 (f_in (q_inr (l := 8) (by decide) h2 h6)))) (by rw [f_1_k (f_m32 (f_in (q_inr (l := 8) (by decide) h2 h6)))]) rfl (by rw [f_1_k (f_m32 (f_in (q_inr (l := 8) (by decide) h2 h6)))]; rfl) ?_
            intro s3 e3
            refine q_vret ja_C_putOnCalendar_51 rfl ?_
            show q_W _ _ _ _ 31 [some (.ref 0), some (.int a1)] [] s3
            refine q_aload_n (pc' := 32) ja_C_report_31 rfl rfl ?_
            refine q_getf (pc' := 35) (v := .int (s3 0 5)) ja_C_report_32 rfl (by decide) ⟨rfl, by decide⟩ rfl ?_
            refine q_iconst (pc' := 36) ja_C_report_35 rfl 1 (by decide) ?_
            refine q_isub (pc' := 37) ja_C_report_36 rfl ?_
            exact q_iret ja_C_report_37 rfl rfl (k5 h2 h4 h6 h7 h8 s1 e1 s2 e2 s3 e3)
          · intro h9
            refine q_vret ja_C_putOnCalendar_20 rfl ?_
            show q_W _ _ _ _ 31 [some (.ref 0), some (.int a1)] [] s
            refine q_aload_n (pc' := 32) ja_C_report_31 rfl rfl ?_
            refine q_getf (pc' := 35) (v := .int (s 0 5)) ja_C_report_32 rfl (by decide) ⟨rfl, by decide⟩ rfl ?_
            refine q_iconst (pc' := 36) ja_C_report_35 rfl 1 (by decide) ?_
            refine q_isub (pc' := 37) ja_C_report_36 rfl ?_
            exact q_iret ja_C_report_37 rfl rfl (k6 h2 h4 h6 h7 h9)
        · intro h10
          refine q_bipush (pc' := 25) ja_C_report_23 rfl (-3) (by decide) ?_
          exact q_iret ja_C_report_25 rfl rfl (k7 h2 h4 h6 h10)
set_option maxRecDepth 20000 in
theorem t_C_ruled {G : jv_X} {d : Nat} {B : Option Value → jg_H → Prop} {s : jg_H} (a1 : Int32) (a2 : Int32) (a3 : Int32)
    (k1 : a3 < 0 → ∀ s1 : jg_H, s1 = jg_up s 120 0 a2 → ∀ s2 : jg_H, s2 = jg_up s1 120 1 (s 60 0) → ∀ s3 : jg_H, s3 = jg_up s2 120 3 0 → ∀ s4 : jg_H, s4 = jg_up s3 120 6 0 → ∀ s5 : jg_H, s5 = jg_up s4 120 7 0 → q_P G (d + 2) 75 [.ref 0, .int (s5 0 12), .int a1] s5 (fun v t => q_W G (d + 2) jm_C_ruled B 31 [some (.ref 0), some (.int a1), some (.int a2), some (.int a3)] (v.toList ++ []) t))
    (k2 : ¬ a3 < 0 → ¬ a3 < (s 0 1) → ∀ s6 : jg_H, s6 = jg_up s 120 0 a2 → ∀ s7 : jg_H, s7 = jg_up s6 120 1 (s 60 0) → ∀ s8 : jg_H, s8 = jg_up s7 120 3 0 → ∀ s9 : jg_H, s9 = jg_up s8 120 6 0 → ∀ s10 : jg_H, s10 = jg_up s9 120 7 0 → q_P G (d + 2) 75 [.ref 0, .int (s10 0 12), .int a1] s10 (fun v t => q_W G (d + 2) jm_C_ruled B 31 [some (.ref 0), some (.int a1), some (.int a2), some (.int a3)] (v.toList ++ []) t))
    (k3 : ¬ a3 < 0 → a3 < (s 0 1) → ¬ a3 < 15 → ∀ s11 : jg_H, s11 = jg_up s 120 0 a2 → ∀ s12 : jg_H, s12 = jg_up s11 120 1 (s 60 0) → ∀ s13 : jg_H, s13 = jg_up s12 120 3 0 → ∀ s14 : jg_H, s14 = jg_up s13 120 6 0 → ∀ s15 : jg_H, s15 = jg_up s14 120 7 0 → q_P G (d + 2) 75 [.ref 0, .int (s15 0 12), .int a1] s15 (fun v t => q_W G (d + 2) jm_C_ruled B 31 [some (.ref 0), some (.int a1), some (.int a2), some (.int a3)] (v.toList ++ []) t))
    (k4 : ¬ a3 < 0 → a3 < (s 0 1) → a3 < 15 → ∀ s16 : jg_H, s16 = jg_up s 120 0 a2 → ∀ s17 : jg_H, s17 = jg_up s16 120 1 (s 60 0) → ∀ s18 : jg_H, s18 = jg_up s17 120 3 (s (2 + 2 * a3.toNatClampNeg) 0) → ∀ s19 : jg_H, s19 = jg_up s18 120 6 0 → ∀ s20 : jg_H, s20 = jg_up s19 120 7 0 → q_P G (d + 2) 75 [.ref 0, .int (s20 0 12), .int a1] s20 (fun v t => q_W G (d + 2) jm_C_ruled B 31 [some (.ref 0), some (.int a1), some (.int a2), some (.int a3)] (v.toList ++ []) t)) :
    q_P G (d + 3) 87 [.ref 0, .int a1, .int a2, .int a3] s B := by
  refine q_in (M := jm_C_ruled) rfl (Nat.le_of_ble_eq_true rfl) (ls := [some (.ref 0), some (.int a1), some (.int a2), some (.int a3)]) rfl ?_
  refine q_aload_n (pc' := 1) ja_C_ruled_0 rfl rfl ?_
  refine q_getf (pc' := 4) (v := .ref 119) ja_C_ruled_1 rfl (by decide) ⟨rfl, by decide⟩ rfl ?_
  refine q_iload_n (pc' := 5) ja_C_ruled_4 rfl rfl ?_
  refine q_aload_n (pc' := 6) ja_C_ruled_5 rfl rfl ?_
  refine q_iload_n (pc' := 7) ja_C_ruled_6 rfl rfl ?_
  refine q_virt (pc' := 10) (c := 0) (as := [.int a3]) (r := [.int a2, .ref 119]) ja_C_ruled_7 rfl rfl rfl (by decide) ⟨rfl, by decide⟩ ?_
  refine q_in (M := jm_C_partyOf) rfl (Nat.le_of_ble_eq_true rfl) (ls := [some (.ref 0), some (.int a3)]) rfl ?_
  refine q_aload_n (pc' := 1) ja_C_partyOf_0 rfl rfl ?_
  refine q_iload_n (pc' := 2) ja_C_partyOf_1 rfl rfl ?_
  refine q_virt (pc' := 5) (c := 0) (as := [.int a3]) (r := []) ja_C_partyOf_2 rfl rfl rfl (by decide) ⟨rfl, by decide⟩ ?_
  refine q_in (M := jm_C_isMember) rfl (Nat.le_of_ble_eq_true rfl) (ls := [some (.ref 0), some (.int a3)]) rfl ?_
  refine q_iload_n (pc' := 1) ja_C_isMember_0 rfl rfl ?_
  refine q_if_lt (pc' := 4) ja_C_isMember_1 rfl ?_ ?_
  · intro h1
    refine q_iconst (pc' := 26) ja_C_isMember_25 rfl 0 (by decide) ?_
    refine q_iret ja_C_isMember_26 rfl (by decide) ?_
    show q_W _ _ _ _ 5 [some (.ref 0), some (.int a3)] [.int 0] s
    refine q_if_eq (pc' := 8) ja_C_partyOf_5 rfl (fun _ => ?_) (fun h => absurd ((by decide : (0 : Int32) = 0)) h)
    refine q_iconst (pc' := 21) ja_C_partyOf_20 rfl 0 (by decide) ?_
    refine q_iret ja_C_partyOf_21 rfl rfl ?_
    show q_W _ _ _ _ 10 [some (.ref 0), some (.int a1), some (.int a2), some (.int a3)] [.int 0, .int a2, .ref 119] s
    refine q_aload_n (pc' := 11) ja_C_ruled_10 rfl rfl ?_
    refine q_getf (pc' := 14) (v := .ref 60) ja_C_ruled_11 rfl (by decide) ⟨rfl, by decide⟩ rfl ?_
    refine q_getf (pc' := 17) (v := .int (s 60 0)) ja_C_ruled_14 rfl (by decide) ⟨rfl, by decide⟩ rfl ?_
    refine q_iconst (pc' := 18) ja_C_ruled_17 rfl 0 (by decide) ?_
    refine q_iconst (pc' := 19) ja_C_ruled_18 rfl 0 (by decide) ?_
    refine q_virt (pc' := 22) (c := 119) (as := [.int a2, .int 0, .int (s 60 0), .int 0, .int 0]) (r := []) ja_C_ruled_19 rfl rfl rfl (by decide) ⟨rfl, by decide⟩ ?_
    refine q_in (M := jm_Machine_sets) rfl (Nat.le_of_ble_eq_true rfl) (ls := [some (.ref 119), some (.int a2), some (.int 0), some (.int (s 60 0)), some (.int 0), some (.int 0)]) rfl ?_
    refine q_aload_n (pc' := 1) ja_Machine_sets_0 rfl rfl ?_
    refine q_getf (pc' := 4) (v := .ref 120) ja_Machine_sets_1 rfl (by decide) ⟨rfl, by decide⟩ rfl ?_
    refine q_iconst (pc' := 5) ja_Machine_sets_4 rfl 0 (by decide) ?_
    refine q_iload_n (pc' := 6) ja_Machine_sets_5 rfl rfl ?_
    refine q_iast (pc' := 7) ja_Machine_sets_6 rfl (by decide) (l := 8) rfl (by decide) ?_
    intro s1 e1
    refine q_aload_n (pc' := 8) ja_Machine_sets_7 rfl rfl ?_
    refine q_getf (pc' := 11) (v := .ref 120) ja_Machine_sets_8 rfl (by decide) ⟨rfl, by decide⟩ rfl ?_
    refine q_iconst (pc' := 12) ja_Machine_sets_11 rfl 1 (by decide) ?_
    refine q_iload_n (pc' := 13) ja_Machine_sets_12 rfl rfl ?_
    refine q_iast (pc' := 14) ja_Machine_sets_13 rfl (by decide) (l := 8) rfl (by decide) ?_
    intro s2 e2
    refine q_aload_n (pc' := 15) ja_Machine_sets_14 rfl rfl ?_
    refine q_getf (pc' := 18) (v := .ref 120) ja_Machine_sets_15 rfl (by decide) ⟨rfl, by decide⟩ rfl ?_
    refine q_iconst (pc' := 19) ja_Machine_sets_18 rfl 3 (by decide) ?_
    refine q_iload_n (pc' := 20) ja_Machine_sets_19 rfl rfl ?_
    refine q_iast (pc' := 21) ja_Machine_sets_20 rfl (by decide) (l := 8) rfl (by decide) ?_
    intro s3 e3
    refine q_aload_n (pc' := 22) ja_Machine_sets_21 rfl rfl ?_
    refine q_getf (pc' := 25) (v := .ref 120) ja_Machine_sets_22 rfl (by decide) ⟨rfl, by decide⟩ rfl ?_
    refine q_bipush (pc' := 27) ja_Machine_sets_25 rfl 6 (by decide) ?_
    refine q_iload (pc' := 29) ja_Machine_sets_27 rfl rfl ?_
    refine q_iast (pc' := 30) ja_Machine_sets_29 rfl (by decide) (l := 8) rfl (by decide) ?_
    intro s4 e4
    refine q_aload_n (pc' := 31) ja_Machine_sets_30 rfl rfl ?_
    refine q_getf (pc' := 34) (v := .ref 120) ja_Machine_sets_31 rfl (by decide) ⟨rfl, by decide⟩ rfl ?_
    refine q_bipush (pc' := 36) ja_Machine_sets_34 rfl 7 (by decide) ?_
    refine q_iload (pc' := 38) ja_Machine_sets_36 rfl rfl ?_
    refine q_iast (pc' := 39) ja_Machine_sets_38 rfl (by decide) (l := 8) rfl (by decide) ?_
    intro s5 e5
    refine q_vret ja_Machine_sets_39 rfl ?_
    show q_W _ _ _ _ 22 [some (.ref 0), some (.int a1), some (.int a2), some (.int a3)] [] s5
    refine q_aload_n (pc' := 23) ja_C_ruled_22 rfl rfl ?_
    refine q_aload_n (pc' := 24) ja_C_ruled_23 rfl rfl ?_
    refine q_getf (pc' := 27) (v := .int (s5 0 12)) ja_C_ruled_24 rfl (by decide) ⟨rfl, by decide⟩ rfl ?_
    refine q_iload_n (pc' := 28) ja_C_ruled_27 rfl rfl ?_
    refine q_virt (pc' := 31) (c := 0) (as := [.int (s5 0 12), .int a1]) (r := []) ja_C_ruled_28 rfl rfl rfl (by decide) ⟨rfl, by decide⟩ ?_
    exact (k1 h1 s1 e1 s2 e2 s3 e3 s4 e4 s5 e5)
  · intro h2
    refine q_iload_n (pc' := 5) ja_C_isMember_4 rfl rfl ?_
    refine q_aload_n (pc' := 6) ja_C_isMember_5 rfl rfl ?_
    refine q_getf (pc' := 9) (v := .int (s 0 1)) ja_C_isMember_6 rfl (by decide) ⟨rfl, by decide⟩ rfl ?_
    refine q_ic_ge (pc' := 12) ja_C_isMember_9 rfl ?_ ?_
    · intro h3
      refine q_iconst (pc' := 26) ja_C_isMember_25 rfl 0 (by decide) ?_
      refine q_iret ja_C_isMember_26 rfl (by decide) ?_
      show q_W _ _ _ _ 5 [some (.ref 0), some (.int a3)] [.int 0] s
      refine q_if_eq (pc' := 8) ja_C_partyOf_5 rfl (fun _ => ?_) (fun h => absurd ((by decide : (0 : Int32) = 0)) h)
      refine q_iconst (pc' := 21) ja_C_partyOf_20 rfl 0 (by decide) ?_
      refine q_iret ja_C_partyOf_21 rfl rfl ?_
      show q_W _ _ _ _ 10 [some (.ref 0), some (.int a1), some (.int a2), some (.int a3)] [.int 0, .int a2, .ref 119] s
      refine q_aload_n (pc' := 11) ja_C_ruled_10 rfl rfl ?_
      refine q_getf (pc' := 14) (v := .ref 60) ja_C_ruled_11 rfl (by decide) ⟨rfl, by decide⟩ rfl ?_
      refine q_getf (pc' := 17) (v := .int (s 60 0)) ja_C_ruled_14 rfl (by decide) ⟨rfl, by decide⟩ rfl ?_
      refine q_iconst (pc' := 18) ja_C_ruled_17 rfl 0 (by decide) ?_
      refine q_iconst (pc' := 19) ja_C_ruled_18 rfl 0 (by decide) ?_
      refine q_virt (pc' := 22) (c := 119) (as := [.int a2, .int 0, .int (s 60 0), .int 0, .int 0]) (r := []) ja_C_ruled_19 rfl rfl rfl (by decide) ⟨rfl, by decide⟩ ?_
      refine q_in (M := jm_Machine_sets) rfl (Nat.le_of_ble_eq_true rfl) (ls := [some (.ref 119), some (.int a2), some (.int 0), some (.int (s 60 0)), some (.int 0), some (.int 0)]) rfl ?_
      refine q_aload_n (pc' := 1) ja_Machine_sets_0 rfl rfl ?_
      refine q_getf (pc' := 4) (v := .ref 120) ja_Machine_sets_1 rfl (by decide) ⟨rfl, by decide⟩ rfl ?_
      refine q_iconst (pc' := 5) ja_Machine_sets_4 rfl 0 (by decide) ?_
      refine q_iload_n (pc' := 6) ja_Machine_sets_5 rfl rfl ?_
      refine q_iast (pc' := 7) ja_Machine_sets_6 rfl (by decide) (l := 8) rfl (by decide) ?_
      intro s6 e6
      refine q_aload_n (pc' := 8) ja_Machine_sets_7 rfl rfl ?_
      refine q_getf (pc' := 11) (v := .ref 120) ja_Machine_sets_8 rfl (by decide) ⟨rfl, by decide⟩ rfl ?_
      refine q_iconst (pc' := 12) ja_Machine_sets_11 rfl 1 (by decide) ?_
      refine q_iload_n (pc' := 13) ja_Machine_sets_12 rfl rfl ?_
      refine q_iast (pc' := 14) ja_Machine_sets_13 rfl (by decide) (l := 8) rfl (by decide) ?_
      intro s7 e7
      refine q_aload_n (pc' := 15) ja_Machine_sets_14 rfl rfl ?_
      refine q_getf (pc' := 18) (v := .ref 120) ja_Machine_sets_15 rfl (by decide) ⟨rfl, by decide⟩ rfl ?_
      refine q_iconst (pc' := 19) ja_Machine_sets_18 rfl 3 (by decide) ?_
      refine q_iload_n (pc' := 20) ja_Machine_sets_19 rfl rfl ?_
      refine q_iast (pc' := 21) ja_Machine_sets_20 rfl (by decide) (l := 8) rfl (by decide) ?_
      intro s8 e8
      refine q_aload_n (pc' := 22) ja_Machine_sets_21 rfl rfl ?_
      refine q_getf (pc' := 25) (v := .ref 120) ja_Machine_sets_22 rfl (by decide) ⟨rfl, by decide⟩ rfl ?_
      refine q_bipush (pc' := 27) ja_Machine_sets_25 rfl 6 (by decide) ?_
      refine q_iload (pc' := 29) ja_Machine_sets_27 rfl rfl ?_
      refine q_iast (pc' := 30) ja_Machine_sets_29 rfl (by decide) (l := 8) rfl (by decide) ?_
      intro s9 e9
      refine q_aload_n (pc' := 31) ja_Machine_sets_30 rfl rfl ?_
      refine q_getf (pc' := 34) (v := .ref 120) ja_Machine_sets_31 rfl (by decide) ⟨rfl, by decide⟩ rfl ?_
      refine q_bipush (pc' := 36) ja_Machine_sets_34 rfl 7 (by decide) ?_
      refine q_iload (pc' := 38) ja_Machine_sets_36 rfl rfl ?_
      refine q_iast (pc' := 39) ja_Machine_sets_38 rfl (by decide) (l := 8) rfl (by decide) ?_
      intro s10 e10
      refine q_vret ja_Machine_sets_39 rfl ?_
      show q_W _ _ _ _ 22 [some (.ref 0), some (.int a1), some (.int a2), some (.int a3)] [] s10
      refine q_aload_n (pc' := 23) ja_C_ruled_22 rfl rfl ?_
      refine q_aload_n (pc' := 24) ja_C_ruled_23 rfl rfl ?_
      refine q_getf (pc' := 27) (v := .int (s10 0 12)) ja_C_ruled_24 rfl (by decide) ⟨rfl, by decide⟩ rfl ?_
      refine q_iload_n (pc' := 28) ja_C_ruled_27 rfl rfl ?_
      refine q_virt (pc' := 31) (c := 0) (as := [.int (s10 0 12), .int a1]) (r := []) ja_C_ruled_28 rfl rfl rfl (by decide) ⟨rfl, by decide⟩ ?_
      exact (k2 h2 h3 s6 e6 s7 e7 s8 e8 s9 e9 s10 e10)
    · intro h4
      refine q_iload_n (pc' := 13) ja_C_isMember_12 rfl rfl ?_
      refine q_aload_n (pc' := 14) ja_C_isMember_13 rfl rfl ?_
      refine q_getf (pc' := 17) (v := .ref 1) ja_C_isMember_14 rfl (by decide) ⟨rfl, by decide⟩ rfl ?_
      refine q_alen (pc' := 18) ja_C_isMember_17 rfl (by decide) (kd := 16) (l := 15) rfl (by decide) (v := 15) (by decide) ?_
      refine q_ic_ge (pc' := 21) ja_C_isMember_18 rfl ?_ ?_
      · intro h5
        refine q_iconst (pc' := 26) ja_C_isMember_25 rfl 0 (by decide) ?_
        refine q_iret ja_C_isMember_26 rfl (by decide) ?_
        show q_W _ _ _ _ 5 [some (.ref 0), some (.int a3)] [.int 0] s
        refine q_if_eq (pc' := 8) ja_C_partyOf_5 rfl (fun _ => ?_) (fun h => absurd ((by decide : (0 : Int32) = 0)) h)
        refine q_iconst (pc' := 21) ja_C_partyOf_20 rfl 0 (by decide) ?_
        refine q_iret ja_C_partyOf_21 rfl rfl ?_
        show q_W _ _ _ _ 10 [some (.ref 0), some (.int a1), some (.int a2), some (.int a3)] [.int 0, .int a2, .ref 119] s
        refine q_aload_n (pc' := 11) ja_C_ruled_10 rfl rfl ?_
        refine q_getf (pc' := 14) (v := .ref 60) ja_C_ruled_11 rfl (by decide) ⟨rfl, by decide⟩ rfl ?_
        refine q_getf (pc' := 17) (v := .int (s 60 0)) ja_C_ruled_14 rfl (by decide) ⟨rfl, by decide⟩ rfl ?_
        refine q_iconst (pc' := 18) ja_C_ruled_17 rfl 0 (by decide) ?_
        refine q_iconst (pc' := 19) ja_C_ruled_18 rfl 0 (by decide) ?_
        refine q_virt (pc' := 22) (c := 119) (as := [.int a2, .int 0, .int (s 60 0), .int 0, .int 0]) (r := []) ja_C_ruled_19 rfl rfl rfl (by decide) ⟨rfl, by decide⟩ ?_
        refine q_in (M := jm_Machine_sets) rfl (Nat.le_of_ble_eq_true rfl) (ls := [some (.ref 119), some (.int a2), some (.int 0), some (.int (s 60 0)), some (.int 0), some (.int 0)]) rfl ?_
        refine q_aload_n (pc' := 1) ja_Machine_sets_0 rfl rfl ?_
        refine q_getf (pc' := 4) (v := .ref 120) ja_Machine_sets_1 rfl (by decide) ⟨rfl, by decide⟩ rfl ?_
        refine q_iconst (pc' := 5) ja_Machine_sets_4 rfl 0 (by decide) ?_
        refine q_iload_n (pc' := 6) ja_Machine_sets_5 rfl rfl ?_
        refine q_iast (pc' := 7) ja_Machine_sets_6 rfl (by decide) (l := 8) rfl (by decide) ?_
        intro s11 e11
        refine q_aload_n (pc' := 8) ja_Machine_sets_7 rfl rfl ?_
        refine q_getf (pc' := 11) (v := .ref 120) ja_Machine_sets_8 rfl (by decide) ⟨rfl, by decide⟩ rfl ?_
        refine q_iconst (pc' := 12) ja_Machine_sets_11 rfl 1 (by decide) ?_
        refine q_iload_n (pc' := 13) ja_Machine_sets_12 rfl rfl ?_
        refine q_iast (pc' := 14) ja_Machine_sets_13 rfl (by decide) (l := 8) rfl (by decide) ?_
        intro s12 e12
        refine q_aload_n (pc' := 15) ja_Machine_sets_14 rfl rfl ?_
        refine q_getf (pc' := 18) (v := .ref 120) ja_Machine_sets_15 rfl (by decide) ⟨rfl, by decide⟩ rfl ?_
        refine q_iconst (pc' := 19) ja_Machine_sets_18 rfl 3 (by decide) ?_
        refine q_iload_n (pc' := 20) ja_Machine_sets_19 rfl rfl ?_
        refine q_iast (pc' := 21) ja_Machine_sets_20 rfl (by decide) (l := 8) rfl (by decide) ?_
        intro s13 e13
        refine q_aload_n (pc' := 22) ja_Machine_sets_21 rfl rfl ?_
        refine q_getf (pc' := 25) (v := .ref 120) ja_Machine_sets_22 rfl (by decide) ⟨rfl, by decide⟩ rfl ?_
        refine q_bipush (pc' := 27) ja_Machine_sets_25 rfl 6 (by decide) ?_
        refine q_iload (pc' := 29) ja_Machine_sets_27 rfl rfl ?_
        refine q_iast (pc' := 30) ja_Machine_sets_29 rfl (by decide) (l := 8) rfl (by decide) ?_
        intro s14 e14
        refine q_aload_n (pc' := 31) ja_Machine_sets_30 rfl rfl ?_
        refine q_getf (pc' := 34) (v := .ref 120) ja_Machine_sets_31 rfl (by decide) ⟨rfl, by decide⟩ rfl ?_
        refine q_bipush (pc' := 36) ja_Machine_sets_34 rfl 7 (by decide) ?_
        refine q_iload (pc' := 38) ja_Machine_sets_36 rfl rfl ?_
        refine q_iast (pc' := 39) ja_Machine_sets_38 rfl (by decide) (l := 8) rfl (by decide) ?_
        intro s15 e15
        refine q_vret ja_Machine_sets_39 rfl ?_
        show q_W _ _ _ _ 22 [some (.ref 0), some (.int a1), some (.int a2), some (.int a3)] [] s15
        refine q_aload_n (pc' := 23) ja_C_ruled_22 rfl rfl ?_
        refine q_aload_n (pc' := 24) ja_C_ruled_23 rfl rfl ?_
        refine q_getf (pc' := 27) (v := .int (s15 0 12)) ja_C_ruled_24 rfl (by decide) ⟨rfl, by decide⟩ rfl ?_
        refine q_iload_n (pc' := 28) ja_C_ruled_27 rfl rfl ?_
        refine q_virt (pc' := 31) (c := 0) (as := [.int (s15 0 12), .int a1]) (r := []) ja_C_ruled_28 rfl rfl rfl (by decide) ⟨rfl, by decide⟩ ?_
        exact (k3 h2 h4 h5 s11 e11 s12 e12 s13 e13 s14 e14 s15 e15)
      · intro h6
        refine q_iconst (pc' := 22) ja_C_isMember_21 rfl 1 (by decide) ?_
        refine q_goto ja_C_isMember_22 ?_
        refine q_iret ja_C_isMember_26 rfl (by decide) ?_
        show q_W _ _ _ _ 5 [some (.ref 0), some (.int a3)] [.int 1] s
        refine q_if_eq (pc' := 8) ja_C_partyOf_5 rfl (fun h => absurd h ((by decide : ¬ (1 : Int32) = 0))) (fun _ => ?_)
        refine q_aload_n (pc' := 9) ja_C_partyOf_8 rfl rfl ?_
        refine q_getf (pc' := 12) (v := .ref 1) ja_C_partyOf_9 rfl (by decide) ⟨rfl, by decide⟩ rfl ?_
        refine q_iload_n (pc' := 13) ja_C_partyOf_12 rfl rfl ?_
        refine q_aald (pc' := 14) (v := .ref (2 + 2 * a3.toNatClampNeg)) ja_C_partyOf_13 rfl (by decide) (kd := 16) (l := 15) rfl (by decide) (q_inr (l := 15) (by decide) h2 h6) (f_A1 (f_in (q_inr (l := 15) (by decide) h2 h6))) ?_
        refine q_getf (pc' := 17) (v := .int (s (2 + 2 * a3.toNatClampNeg) 0)) ja_C_partyOf_14 rfl (f_5_c (f_m1 (f_in (q_inr (l := 15) (by decide) h2 h6)))) ⟨by rw [f_5_k (f_m1 (f_in (q_inr (l := 15) (by decide) h2 h6)))], by decide⟩ (f_i (f_5_k (f_m1 (f_in (q_inr (l := 15) (by decide) h2 h6)))) rfl) ?_
        refine q_goto ja_C_partyOf_17 ?_
        refine q_iret ja_C_partyOf_21 rfl rfl ?_
        show q_W _ _ _ _ 10 [some (.ref 0), some (.int a1), some (.int a2), some (.int a3)] [.int (s (2 + 2 * a3.toNatClampNeg) 0), .int a2, .ref 119] s
        refine q_aload_n (pc' := 11) ja_C_ruled_10 rfl rfl ?_
        refine q_getf (pc' := 14) (v := .ref 60) ja_C_ruled_11 rfl (by decide) ⟨rfl, by decide⟩ rfl ?_
        refine q_getf (pc' := 17) (v := .int (s 60 0)) ja_C_ruled_14 rfl (by decide) ⟨rfl, by decide⟩ rfl ?_
        refine q_iconst (pc' := 18) ja_C_ruled_17 rfl 0 (by decide) ?_
        refine q_iconst (pc' := 19) ja_C_ruled_18 rfl 0 (by decide) ?_
        refine q_virt (pc' := 22) (c := 119) (as := [.int a2, .int (s (2 + 2 * a3.toNatClampNeg) 0), .int (s 60 0), .int 0, .int 0]) (r := []) ja_C_ruled_19 rfl rfl rfl (by decide) ⟨rfl, by decide⟩ ?_
        refine q_in (M := jm_Machine_sets) rfl (Nat.le_of_ble_eq_true rfl) (ls := [some (.ref 119), some (.int a2), some (.int (s (2 + 2 * a3.toNatClampNeg) 0)), some (.int (s 60 0)), some (.int 0), some (.int 0)]) rfl ?_
        refine q_aload_n (pc' := 1) ja_Machine_sets_0 rfl rfl ?_
        refine q_getf (pc' := 4) (v := .ref 120) ja_Machine_sets_1 rfl (by decide) ⟨rfl, by decide⟩ rfl ?_
        refine q_iconst (pc' := 5) ja_Machine_sets_4 rfl 0 (by decide) ?_
        refine q_iload_n (pc' := 6) ja_Machine_sets_5 rfl rfl ?_
        refine q_iast (pc' := 7) ja_Machine_sets_6 rfl (by decide) (l := 8) rfl (by decide) ?_
        intro s16 e16
        refine q_aload_n (pc' := 8) ja_Machine_sets_7 rfl rfl ?_
        refine q_getf (pc' := 11) (v := .ref 120) ja_Machine_sets_8 rfl (by decide) ⟨rfl, by decide⟩ rfl ?_
        refine q_iconst (pc' := 12) ja_Machine_sets_11 rfl 1 (by decide) ?_
        refine q_iload_n (pc' := 13) ja_Machine_sets_12 rfl rfl ?_
        refine q_iast (pc' := 14) ja_Machine_sets_13 rfl (by decide) (l := 8) rfl (by decide) ?_
        intro s17 e17
        refine q_aload_n (pc' := 15) ja_Machine_sets_14 rfl rfl ?_
        refine q_getf (pc' := 18) (v := .ref 120) ja_Machine_sets_15 rfl (by decide) ⟨rfl, by decide⟩ rfl ?_
        refine q_iconst (pc' := 19) ja_Machine_sets_18 rfl 3 (by decide) ?_
        refine q_iload_n (pc' := 20) ja_Machine_sets_19 rfl rfl ?_
        refine q_iast (pc' := 21) ja_Machine_sets_20 rfl (by decide) (l := 8) rfl (by decide) ?_
        intro s18 e18
        refine q_aload_n (pc' := 22) ja_Machine_sets_21 rfl rfl ?_
        refine q_getf (pc' := 25) (v := .ref 120) ja_Machine_sets_22 rfl (by decide) ⟨rfl, by decide⟩ rfl ?_
        refine q_bipush (pc' := 27) ja_Machine_sets_25 rfl 6 (by decide) ?_
        refine q_iload (pc' := 29) ja_Machine_sets_27 rfl rfl ?_
        refine q_iast (pc' := 30) ja_Machine_sets_29 rfl (by decide) (l := 8) rfl (by decide) ?_
        intro s19 e19
        refine q_aload_n (pc' := 31) ja_Machine_sets_30 rfl rfl ?_
        refine q_getf (pc' := 34) (v := .ref 120) ja_Machine_sets_31 rfl (by decide) ⟨rfl, by decide⟩ rfl ?_
        refine q_bipush (pc' := 36) ja_Machine_sets_34 rfl 7 (by decide) ?_
        refine q_iload (pc' := 38) ja_Machine_sets_36 rfl rfl ?_
        refine q_iast (pc' := 39) ja_Machine_sets_38 rfl (by decide) (l := 8) rfl (by decide) ?_
        intro s20 e20
        refine q_vret ja_Machine_sets_39 rfl ?_
        show q_W _ _ _ _ 22 [some (.ref 0), some (.int a1), some (.int a2), some (.int a3)] [] s20
        refine q_aload_n (pc' := 23) ja_C_ruled_22 rfl rfl ?_
        refine q_aload_n (pc' := 24) ja_C_ruled_23 rfl rfl ?_
        refine q_getf (pc' := 27) (v := .int (s20 0 12)) ja_C_ruled_24 rfl (by decide) ⟨rfl, by decide⟩ rfl ?_
        refine q_iload_n (pc' := 28) ja_C_ruled_27 rfl rfl ?_
        refine q_virt (pc' := 31) (c := 0) (as := [.int (s20 0 12), .int a1]) (r := []) ja_C_ruled_28 rfl rfl rfl (by decide) ⟨rfl, by decide⟩ ?_
        exact (k4 h2 h4 h6 s16 e16 s17 e17 s18 e18 s19 e19 s20 e20)
set_option maxRecDepth 20000 in
theorem t_C_ruled_31 {G : jv_X} {d : Nat} {B : Option Value → jg_H → Prop} {s : jg_H} (x1 : Int32) (x2 : Int32) (x3 : Int32) (y0 : Int32)
    (k1 : B (some (.int y0)) s) :
    q_W G (d + 2) jm_C_ruled B 31 [some (.ref 0), some (.int x1), some (.int x2), some (.int x3)] [.int y0] s := by
  exact q_iret ja_C_ruled_31 rfl rfl k1
set_option maxRecDepth 20000 in
theorem t_C_says {G : jv_X} {d : Nat} {B : Option Value → jg_H → Prop} {s : jg_H} (a1 : Int32) (a2 : Int32) (a3 : Int32) (a4 : Int32) (a5 : Int32) (a6 : Int32)
    (k1 : a1 < 0 → B (some (.long (-4611686018427387904))) s)
    (k2 : ¬ a1 < 0 → ¬ a1 < (s 0 11) → B (some (.long (-4611686018427387904))) s)
    (k3 : ¬ a1 < 0 → a1 < (s 0 11) → ¬ a1 < 8 → B (some (.long (-4611686018427387904))) s)
    (k4 : ¬ a1 < 0 → a1 < (s 0 11) → a1 < 8 → a2 < 0 → B (some (.long (-4611686018427387904))) s)
    (k5 : ¬ a1 < 0 → a1 < (s 0 11) → a1 < 8 → ¬ a2 < 0 → ¬ a2 < 4 → B (some (.long (-4611686018427387904))) s)
    (k6 : ¬ a1 < 0 → a1 < (s 0 11) → a1 < 8 → ¬ a2 < 0 → a2 < 4 → a3 < 0 → B (some (.long (-4611686018427387904))) s)
    (k7 : ¬ a1 < 0 → a1 < (s 0 11) → a1 < 8 → ¬ a2 < 0 → a2 < 4 → ¬ a3 < 0 → ¬ a3 ≤ 6 → B (some (.long (-4611686018427387904))) s)
    (k8 : ¬ a1 < 0 → a1 < (s 0 11) → a1 < 8 → ¬ a2 < 0 → a2 < 4 → ¬ a3 < 0 → a3 ≤ 6 → a4 < 0 → B (some (.long (-4611686018427387904))) s)
    (k9 : ¬ a1 < 0 → a1 < (s 0 11) → a1 < 8 → ¬ a2 < 0 → a2 < 4 → ¬ a3 < 0 → a3 ≤ 6 → ¬ a4 < 0 → a4 ≤ 3 → a5 < 0 → B (some (.long (-4611686018427387904))) s)
    (k10 : ¬ a1 < 0 → a1 < (s 0 11) → a1 < 8 → ¬ a2 < 0 → a2 < 4 → ¬ a3 < 0 → a3 ≤ 6 → ¬ a4 < 0 → a4 ≤ 3 → ¬ a5 < 0 → ¬ a5 ≤ 15 → B (some (.long (-4611686018427387904))) s)
    (k11 : ¬ a1 < 0 → a1 < (s 0 11) → a1 < 8 → ¬ a2 < 0 → a2 < 4 → ¬ a3 < 0 → a3 ≤ 6 → ¬ a4 < 0 → a4 ≤ 3 → ¬ a5 < 0 → a5 ≤ 15 → a6 < 0 → B (some (.long (-4611686018427387904))) s)
    (k12 : ¬ a1 < 0 → a1 < (s 0 11) → a1 < 8 → ¬ a2 < 0 → a2 < 4 → ¬ a3 < 0 → a3 ≤ 6 → ¬ a4 < 0 → a4 ≤ 3 → ¬ a5 < 0 → a5 ≤ 15 → ¬ a6 < 0 → a6 ≤ 15 → ∀ s1 : jg_H, s1 = jg_up s 120 0 a3 → ∀ s2 : jg_H, s2 = jg_up s1 120 1 (s 60 0) → ∀ s3 : jg_H, s3 = jg_up s2 120 3 a4 → ∀ s4 : jg_H, s4 = jg_up s3 120 6 a5 → ∀ s5 : jg_H, s5 = jg_up s4 120 7 a6 → q_P G (d + 1) 75 [.ref 0, .int a1, .int a2] s5 (fun v t => q_W G (d + 1) jm_C_says B 98 [some (.ref 0), some (.int a1), some (.int a2), some (.int a3), some (.int a4), some (.int a5), some (.int a6)] (v.toList ++ []) t))
    (k13 : ¬ a1 < 0 → a1 < (s 0 11) → a1 < 8 → ¬ a2 < 0 → a2 < 4 → ¬ a3 < 0 → a3 ≤ 6 → ¬ a4 < 0 → a4 ≤ 3 → ¬ a5 < 0 → a5 ≤ 15 → ¬ a6 < 0 → ¬ a6 ≤ 15 → B (some (.long (-4611686018427387904))) s)
    (k14 : ¬ a1 < 0 → a1 < (s 0 11) → a1 < 8 → ¬ a2 < 0 → a2 < 4 → ¬ a3 < 0 → a3 ≤ 6 → ¬ a4 < 0 → ¬ a4 ≤ 3 → B (some (.long (-4611686018427387904))) s) :
    q_P G (d + 2) 71 [.ref 0, .int a1, .int a2, .int a3, .int a4, .int a5, .int a6] s B := by
  refine q_in (M := jm_C_says) rfl (Nat.le_of_ble_eq_true rfl) (ls := [some (.ref 0), some (.int a1), some (.int a2), some (.int a3), some (.int a4), some (.int a5), some (.int a6)]) rfl ?_
  refine q_aload_n (pc' := 1) ja_C_says_0 rfl rfl ?_
  refine q_iload_n (pc' := 2) ja_C_says_1 rfl rfl ?_
  refine q_virt (pc' := 5) (c := 0) (as := [.int a1]) (r := []) ja_C_says_2 rfl rfl rfl (by decide) ⟨rfl, by decide⟩ ?_
  refine q_in (M := jm_C_isText) rfl (Nat.le_of_ble_eq_true rfl) (ls := [some (.ref 0), some (.int a1)]) rfl ?_
  refine q_iload_n (pc' := 1) ja_C_isText_0 rfl rfl ?_
  refine q_if_lt (pc' := 4) ja_C_isText_1 rfl ?_ ?_
  · intro h1
    refine q_iconst (pc' := 26) ja_C_isText_25 rfl 0 (by decide) ?_
    refine q_iret ja_C_isText_26 rfl (by decide) ?_
    show q_W _ _ _ _ 5 [some (.ref 0), some (.int a1), some (.int a2), some (.int a3), some (.int a4), some (.int a5), some (.int a6)] [.int 0] s
    refine q_if_eq (pc' := 8) ja_C_says_5 rfl (fun _ => ?_) (fun h => absurd ((by decide : (0 : Int32) = 0)) h)
    refine q_ldc2 (pc' := 27) ja_C_says_24 rfl (-4611686018427387904) (by decide) ?_
    exact q_lret ja_C_says_27 rfl (k1 h1)
  · intro h2
    refine q_iload_n (pc' := 5) ja_C_isText_4 rfl rfl ?_
    refine q_aload_n (pc' := 6) ja_C_isText_5 rfl rfl ?_
    refine q_getf (pc' := 9) (v := .int (s 0 11)) ja_C_isText_6 rfl (by decide) ⟨rfl, by decide⟩ rfl ?_
    refine q_ic_ge (pc' := 12) ja_C_isText_9 rfl ?_ ?_
    · intro h3
      refine q_iconst (pc' := 26) ja_C_isText_25 rfl 0 (by decide) ?_
      refine q_iret ja_C_isText_26 rfl (by decide) ?_
      show q_W _ _ _ _ 5 [some (.ref 0), some (.int a1), some (.int a2), some (.int a3), some (.int a4), some (.int a5), some (.int a6)] [.int 0] s
      refine q_if_eq (pc' := 8) ja_C_says_5 rfl (fun _ => ?_) (fun h => absurd ((by decide : (0 : Int32) = 0)) h)
      refine q_ldc2 (pc' := 27) ja_C_says_24 rfl (-4611686018427387904) (by decide) ?_
      exact q_lret ja_C_says_27 rfl (k2 h2 h3)
    · intro h4
      refine q_iload_n (pc' := 13) ja_C_isText_12 rfl rfl ?_
      refine q_aload_n (pc' := 14) ja_C_isText_13 rfl rfl ?_
      refine q_getf (pc' := 17) (v := .ref 92) ja_C_isText_14 rfl (by decide) ⟨rfl, by decide⟩ rfl ?_
      refine q_alen (pc' := 18) ja_C_isText_17 rfl (by decide) (kd := 19) (l := 8) rfl (by decide) (v := 8) (by decide) ?_
      refine q_ic_ge (pc' := 21) ja_C_isText_18 rfl ?_ ?_
      · intro h5
        refine q_iconst (pc' := 26) ja_C_isText_25 rfl 0 (by decide) ?_
        refine q_iret ja_C_isText_26 rfl (by decide) ?_
        show q_W _ _ _ _ 5 [some (.ref 0), some (.int a1), some (.int a2), some (.int a3), some (.int a4), some (.int a5), some (.int a6)] [.int 0] s
        refine q_if_eq (pc' := 8) ja_C_says_5 rfl (fun _ => ?_) (fun h => absurd ((by decide : (0 : Int32) = 0)) h)
        refine q_ldc2 (pc' := 27) ja_C_says_24 rfl (-4611686018427387904) (by decide) ?_
        exact q_lret ja_C_says_27 rfl (k3 h2 h4 h5)
      · intro h6
        refine q_iconst (pc' := 22) ja_C_isText_21 rfl 1 (by decide) ?_
        refine q_goto ja_C_isText_22 ?_
        refine q_iret ja_C_isText_26 rfl (by decide) ?_
        show q_W _ _ _ _ 5 [some (.ref 0), some (.int a1), some (.int a2), some (.int a3), some (.int a4), some (.int a5), some (.int a6)] [.int 1] s
        refine q_if_eq (pc' := 8) ja_C_says_5 rfl (fun h => absurd h ((by decide : ¬ (1 : Int32) = 0))) (fun _ => ?_)
        refine q_iload_n (pc' := 9) ja_C_says_8 rfl rfl ?_
        refine q_if_lt (pc' := 12) ja_C_says_9 rfl ?_ ?_
        · intro h7
          refine q_ldc2 (pc' := 27) ja_C_says_24 rfl (-4611686018427387904) (by decide) ?_
          exact q_lret ja_C_says_27 rfl (k4 h2 h4 h6 h7)
        · intro h8
          refine q_iload_n (pc' := 13) ja_C_says_12 rfl rfl ?_
          refine q_iconst (pc' := 14) ja_C_says_13 rfl 4 (by decide) ?_
          refine q_ic_ge (pc' := 17) ja_C_says_14 rfl ?_ ?_
          · intro h9
            refine q_ldc2 (pc' := 27) ja_C_says_24 rfl (-4611686018427387904) (by decide) ?_
            exact q_lret ja_C_says_27 rfl (k5 h2 h4 h6 h8 h9)
          · intro h10
            refine q_iload_n (pc' := 18) ja_C_says_17 rfl rfl ?_
            refine q_stat (pc' := 21) (as := [.int a3]) (r := []) ja_C_says_18 rfl (by decide) rfl rfl ?_
            refine q_in (M := jm_C_isKind) rfl (Nat.le_of_ble_eq_true rfl) (ls := [some (.int a3)]) rfl ?_
            refine q_iload_n (pc' := 1) ja_C_isKind_0 rfl rfl ?_
            refine q_if_lt (pc' := 4) ja_C_isKind_1 rfl ?_ ?_
            · intro h11
              refine q_iconst (pc' := 15) ja_C_isKind_14 rfl 0 (by decide) ?_
              refine q_iret ja_C_isKind_15 rfl (by decide) ?_
              show q_W _ _ _ _ 21 [some (.ref 0), some (.int a1), some (.int a2), some (.int a3), some (.int a4), some (.int a5), some (.int a6)] [.int 0] s
              refine q_if_ne (pc' := 24) ja_C_says_21 rfl (fun h => absurd ((by decide : (0 : Int32) = 0)) h) (fun _ => ?_)
              refine q_ldc2 (pc' := 27) ja_C_says_24 rfl (-4611686018427387904) (by decide) ?_
              exact q_lret ja_C_says_27 rfl (k6 h2 h4 h6 h8 h10 h11)
            · intro h12
              refine q_iload_n (pc' := 5) ja_C_isKind_4 rfl rfl ?_
              refine q_bipush (pc' := 7) ja_C_isKind_5 rfl 6 (by decide) ?_
              refine q_ic_gt (pc' := 10) ja_C_isKind_7 rfl ?_ ?_
              · intro h13
                refine q_iconst (pc' := 15) ja_C_isKind_14 rfl 0 (by decide) ?_
                refine q_iret ja_C_isKind_15 rfl (by decide) ?_
                show q_W _ _ _ _ 21 [some (.ref 0), some (.int a1), some (.int a2), some (.int a3), some (.int a4), some (.int a5), some (.int a6)] [.int 0] s
                refine q_if_ne (pc' := 24) ja_C_says_21 rfl (fun h => absurd ((by decide : (0 : Int32) = 0)) h) (fun _ => ?_)
                refine q_ldc2 (pc' := 27) ja_C_says_24 rfl (-4611686018427387904) (by decide) ?_
                exact q_lret ja_C_says_27 rfl (k7 h2 h4 h6 h8 h10 h12 h13)
              · intro h14
                refine q_iconst (pc' := 11) ja_C_isKind_10 rfl 1 (by decide) ?_
                refine q_goto ja_C_isKind_11 ?_
                refine q_iret ja_C_isKind_15 rfl (by decide) ?_
                show q_W _ _ _ _ 21 [some (.ref 0), some (.int a1), some (.int a2), some (.int a3), some (.int a4), some (.int a5), some (.int a6)] [.int 1] s
                refine q_if_ne (pc' := 24) ja_C_says_21 rfl (fun _ => ?_) (fun h => absurd h ((by decide : ¬ (1 : Int32) = 0)))
                refine q_iload (pc' := 30) ja_C_says_28 rfl rfl ?_
                refine q_if_lt (pc' := 33) ja_C_says_30 rfl ?_ ?_
                · intro h15
                  refine q_ldc2 (pc' := 42) ja_C_says_39 rfl (-4611686018427387904) (by decide) ?_
                  exact q_lret ja_C_says_42 rfl (k8 h2 h4 h6 h8 h10 h12 h14 h15)
                · intro h16
                  refine q_iload (pc' := 35) ja_C_says_33 rfl rfl ?_
                  refine q_iconst (pc' := 36) ja_C_says_35 rfl 3 (by decide) ?_
                  refine q_ic_le (pc' := 39) ja_C_says_36 rfl ?_ ?_
                  · intro h17
                    refine q_iload (pc' := 45) ja_C_says_43 rfl rfl ?_
                    refine q_if_lt (pc' := 48) ja_C_says_45 rfl ?_ ?_
                    · intro h18
                      refine q_ldc2 (pc' := 70) ja_C_says_67 rfl (-4611686018427387904) (by decide) ?_
                      exact q_lret ja_C_says_70 rfl (k9 h2 h4 h6 h8 h10 h12 h14 h16 h17 h18)
                    · intro h19
                      refine q_iload (pc' := 50) ja_C_says_48 rfl rfl ?_
                      refine q_bipush (pc' := 52) ja_C_says_50 rfl 15 (by decide) ?_
                      refine q_ic_gt (pc' := 55) ja_C_says_52 rfl ?_ ?_
                      · intro h20
                        refine q_ldc2 (pc' := 70) ja_C_says_67 rfl (-4611686018427387904) (by decide) ?_
                        exact q_lret ja_C_says_70 rfl (k10 h2 h4 h6 h8 h10 h12 h14 h16 h17 h19 h20)
                      · intro h21
                        refine q_iload (pc' := 57) ja_C_says_55 rfl rfl ?_
                        refine q_if_lt (pc' := 60) ja_C_says_57 rfl ?_ ?_
                        · intro h22
                          refine q_ldc2 (pc' := 70) ja_C_says_67 rfl (-4611686018427387904) (by decide) ?_
                          exact q_lret ja_C_says_70 rfl (k11 h2 h4 h6 h8 h10 h12 h14 h16 h17 h19 h21 h22)
                        · intro h23
                          refine q_iload (pc' := 62) ja_C_says_60 rfl rfl ?_
                          refine q_bipush (pc' := 64) ja_C_says_62 rfl 15 (by decide) ?_
                          refine q_ic_le (pc' := 67) ja_C_says_64 rfl ?_ ?_
                          · intro h24
                            refine q_aload_n (pc' := 72) ja_C_says_71 rfl rfl ?_
                            refine q_getf (pc' := 75) (v := .ref 119) ja_C_says_72 rfl (by decide) ⟨rfl, by decide⟩ rfl ?_
                            refine q_iload_n (pc' := 76) ja_C_says_75 rfl rfl ?_
                            refine q_iload (pc' := 78) ja_C_says_76 rfl rfl ?_
                            refine q_aload_n (pc' := 79) ja_C_says_78 rfl rfl ?_
                            refine q_getf (pc' := 82) (v := .ref 60) ja_C_says_79 rfl (by decide) ⟨rfl, by decide⟩ rfl ?_
                            refine q_getf (pc' := 85) (v := .int (s 60 0)) ja_C_says_82 rfl (by decide) ⟨rfl, by decide⟩ rfl ?_
                            refine q_iload (pc' := 87) ja_C_says_85 rfl rfl ?_
                            refine q_iload (pc' := 89) ja_C_says_87 rfl rfl ?_
                            refine q_virt (pc' := 92) (c := 119) (as := [.int a3, .int a4, .int (s 60 0), .int a5, .int a6]) (r := []) ja_C_says_89 rfl rfl rfl (by decide) ⟨rfl, by decide⟩ ?_
                            refine q_in (M := jm_Machine_sets) rfl (Nat.le_of_ble_eq_true rfl) (ls := [some (.ref 119), some (.int a3), some (.int a4), some (.int (s 60 0)), some (.int a5), some (.int a6)]) rfl ?_
                            refine q_aload_n (pc' := 1) ja_Machine_sets_0 rfl rfl ?_
                            refine q_getf (pc' := 4) (v := .ref 120) ja_Machine_sets_1 rfl (by decide) ⟨rfl, by decide⟩ rfl ?_
                            refine q_iconst (pc' := 5) ja_Machine_sets_4 rfl 0 (by decide) ?_
                            refine q_iload_n (pc' := 6) ja_Machine_sets_5 rfl rfl ?_
                            refine q_iast (pc' := 7) ja_Machine_sets_6 rfl (by decide) (l := 8) rfl (by decide) ?_
                            intro s1 e1
                            refine q_aload_n (pc' := 8) ja_Machine_sets_7 rfl rfl ?_
                            refine q_getf (pc' := 11) (v := .ref 120) ja_Machine_sets_8 rfl (by decide) ⟨rfl, by decide⟩ rfl ?_
                            refine q_iconst (pc' := 12) ja_Machine_sets_11 rfl 1 (by decide) ?_
                            refine q_iload_n (pc' := 13) ja_Machine_sets_12 rfl rfl ?_
                            refine q_iast (pc' := 14) ja_Machine_sets_13 rfl (by decide) (l := 8) rfl (by decide) ?_
                            intro s2 e2
                            refine q_aload_n (pc' := 15) ja_Machine_sets_14 rfl rfl ?_
                            refine q_getf (pc' := 18) (v := .ref 120) ja_Machine_sets_15 rfl (by decide) ⟨rfl, by decide⟩ rfl ?_
                            refine q_iconst (pc' := 19) ja_Machine_sets_18 rfl 3 (by decide) ?_
                            refine q_iload_n (pc' := 20) ja_Machine_sets_19 rfl rfl ?_
                            refine q_iast (pc' := 21) ja_Machine_sets_20 rfl (by decide) (l := 8) rfl (by decide) ?_
                            intro s3 e3
                            refine q_aload_n (pc' := 22) ja_Machine_sets_21 rfl rfl ?_
                            refine q_getf (pc' := 25) (v := .ref 120) ja_Machine_sets_22 rfl (by decide) ⟨rfl, by decide⟩ rfl ?_
                            refine q_bipush (pc' := 27) ja_Machine_sets_25 rfl 6 (by decide) ?_
                            refine q_iload (pc' := 29) ja_Machine_sets_27 rfl rfl ?_
                            refine q_iast (pc' := 30) ja_Machine_sets_29 rfl (by decide) (l := 8) rfl (by decide) ?_
                            intro s4 e4
                            refine q_aload_n (pc' := 31) ja_Machine_sets_30 rfl rfl ?_
                            refine q_getf (pc' := 34) (v := .ref 120) ja_Machine_sets_31 rfl (by decide) ⟨rfl, by decide⟩ rfl ?_
                            refine q_bipush (pc' := 36) ja_Machine_sets_34 rfl 7 (by decide) ?_
                            refine q_iload (pc' := 38) ja_Machine_sets_36 rfl rfl ?_
                            refine q_iast (pc' := 39) ja_Machine_sets_38 rfl (by decide) (l := 8) rfl (by decide) ?_
                            intro s5 e5
                            refine q_vret ja_Machine_sets_39 rfl ?_
                            show q_W _ _ _ _ 92 [some (.ref 0), some (.int a1), some (.int a2), some (.int a3), some (.int a4), some (.int a5), some (.int a6)] [] s5
                            refine q_aload_n (pc' := 93) ja_C_says_92 rfl rfl ?_
                            refine q_iload_n (pc' := 94) ja_C_says_93 rfl rfl ?_
                            refine q_iload_n (pc' := 95) ja_C_says_94 rfl rfl ?_
                            refine q_virt (pc' := 98) (c := 0) (as := [.int a1, .int a2]) (r := []) ja_C_says_95 rfl rfl rfl (by decide) ⟨rfl, by decide⟩ ?_
                            exact (k12 h2 h4 h6 h8 h10 h12 h14 h16 h17 h19 h21 h23 h24 s1 e1 s2 e2 s3 e3 s4 e4 s5 e5)
                          · intro h25
                            refine q_ldc2 (pc' := 70) ja_C_says_67 rfl (-4611686018427387904) (by decide) ?_
                            exact q_lret ja_C_says_70 rfl (k13 h2 h4 h6 h8 h10 h12 h14 h16 h17 h19 h21 h23 h25)
                  · intro h26
                    refine q_ldc2 (pc' := 42) ja_C_says_39 rfl (-4611686018427387904) (by decide) ?_
                    exact q_lret ja_C_says_42 rfl (k14 h2 h4 h6 h8 h10 h12 h14 h16 h26)
set_option maxRecDepth 20000 in
theorem t_C_says_98 {G : jv_X} {d : Nat} {B : Option Value → jg_H → Prop} {s : jg_H} (x1 : Int32) (x2 : Int32) (x3 : Int32) (x4 : Int32) (x5 : Int32) (x6 : Int32) (y0 : Int32)
    (k1 : B (some (.long (y0).toInt64)) s) :
    q_W G (d + 1) jm_C_says B 98 [some (.ref 0), some (.int x1), some (.int x2), some (.int x3), some (.int x4), some (.int x5), some (.int x6)] [.int y0] s := by
  refine q_i2l (pc' := 99) ja_C_says_98 rfl ?_
  exact q_lret ja_C_says_99 rfl k1
set_option maxRecDepth 20000 in
theorem t_C_search {G : jv_X} {d : Nat} {B : Option Value → jg_H → Prop} {s : jg_H} {c2 : Nat} (hc2 : f_5 c2) (a3 : Int32) (a4 : Int32) (a5 : Int32) (a6 : Int32)
    (k1 : ¬ a3 < (s 66 0) → q_P G (d + 1) 113 [.ref 65, .ref c2] s (fun v t => q_W G (d + 1) jm_C_search B 33 [some (.ref 0), some (.ref c2), some (.int a3), some (.int a4), some (.int a5), some (.int a6), some (.ref 65), none] (v.toList ++ [.int a5, .ref 65]) t))
    (k2 : a3 < (s 66 0) → a3 < 5 → q_W G (d + 1) jm_C_search B 40 [some (.ref 0), some (.ref c2), some (.int a3), some (.int a4), some (.int a5), some (.int a6), some (.ref 65), some (.int 0)] [] s)
    (k3 : a3 < (s 66 0) → ¬ a3 < 5 → q_P G (d + 1) 113 [.ref 65, .ref c2] s (fun v t => q_W G (d + 1) jm_C_search B 33 [some (.ref 0), some (.ref c2), some (.int a3), some (.int a4), some (.int a5), some (.int a6), some (.ref 65), none] (v.toList ++ [.int a5, .ref 65]) t)) :
    q_P G (d + 2) 115 [.ref 0, .ref c2, .int a3, .int a4, .int a5, .int a6] s B := by
  refine q_in (M := jm_C_search) rfl (Nat.le_of_ble_eq_true rfl) (ls := [some (.ref 0), some (.ref c2), some (.int a3), some (.int a4), some (.int a5), some (.int a6), none, none]) rfl ?_
  refine q_aload_n (pc' := 1) ja_C_search_0 rfl rfl ?_
  refine q_getf (pc' := 4) (v := .ref 65) ja_C_search_1 rfl (by decide) ⟨rfl, by decide⟩ rfl ?_
  refine q_astore (pc' := 6) (ls' := [some (.ref 0), some (.ref c2), some (.int a3), some (.int a4), some (.int a5), some (.int a6), some (.ref 65), none]) ja_C_search_4 rfl ⟨Nat.le_of_ble_eq_true rfl, rfl⟩ rfl ?_
  refine q_iload_n (pc' := 7) ja_C_search_6 rfl rfl ?_
  refine q_aload (pc' := 9) ja_C_search_7 rfl rfl ?_
  refine q_getf (pc' := 12) (v := .ref 66) ja_C_search_9 rfl (by decide) ⟨rfl, by decide⟩ rfl ?_
  refine q_getf (pc' := 15) (v := .int (s 66 0)) ja_C_search_12 rfl (by decide) ⟨rfl, by decide⟩ rfl ?_
  refine q_ic_ge (pc' := 18) ja_C_search_15 rfl ?_ ?_
  · intro h1
    refine q_aload (pc' := 25) ja_C_search_23 rfl rfl ?_
    refine q_iload (pc' := 27) ja_C_search_25 rfl rfl ?_
    refine q_aload (pc' := 29) ja_C_search_27 rfl rfl ?_
    refine q_aload_n (pc' := 30) ja_C_search_29 rfl rfl ?_
    refine q_virt (pc' := 33) (c := 65) (as := [.ref c2]) (r := [.int a5, .ref 65]) ja_C_search_30 rfl rfl rfl (by decide) ⟨rfl, by decide⟩ ?_
    exact (k1 h1)
  · intro h2
    refine q_iload_n (pc' := 19) ja_C_search_18 rfl rfl ?_
    refine q_iconst (pc' := 20) ja_C_search_19 rfl 5 (by decide) ?_
    refine q_ic_lt (pc' := 23) ja_C_search_20 rfl ?_ ?_
    · intro h3
      refine q_iconst (pc' := 38) ja_C_search_37 rfl 0 (by decide) ?_
      refine q_istore (pc' := 40) (ls' := [some (.ref 0), some (.ref c2), some (.int a3), some (.int a4), some (.int a5), some (.int a6), some (.ref 65), some (.int 0)]) ja_C_search_38 rfl ⟨Nat.le_of_ble_eq_true rfl, rfl⟩ rfl ?_
      exact (k2 h2 h3)
    · intro h4
      refine q_aload (pc' := 25) ja_C_search_23 rfl rfl ?_
      refine q_iload (pc' := 27) ja_C_search_25 rfl rfl ?_
      refine q_aload (pc' := 29) ja_C_search_27 rfl rfl ?_
      refine q_aload_n (pc' := 30) ja_C_search_29 rfl rfl ?_
      refine q_virt (pc' := 33) (c := 65) (as := [.ref c2]) (r := [.int a5, .ref 65]) ja_C_search_30 rfl rfl rfl (by decide) ⟨rfl, by decide⟩ ?_
      exact (k3 h2 h4)
set_option maxRecDepth 20000 in
theorem t_C_search_33 {G : jv_X} {d : Nat} {B : Option Value → jg_H → Prop} {s : jg_H} {x1 : Nat} (hx1 : f_5 x1) (x2 : Int32) (x3 : Int32) (x4 : Int32) (x5 : Int32) (y1 : Int32) (y2 : Int32)
    (k1 : (s 65 4) = (-1) → ∀ s1 : jg_H, s1 = jg_up s 65 4 y1 → ∀ s2 : jg_H, s2 = jg_up s1 65 5 y2 → B none s2)
    (k2 : ¬ (s 65 4) = (-1) → ¬ y2 ≤ (s 65 5) → ∀ s3 : jg_H, s3 = jg_up s 65 4 y1 → ∀ s4 : jg_H, s4 = jg_up s3 65 5 y2 → B none s4)
    (k3 : ¬ (s 65 4) = (-1) → y2 ≤ (s 65 5) → ¬ y2 = (s 65 5) → B none s)
    (k4 : ¬ (s 65 4) = (-1) → y2 ≤ (s 65 5) → y2 = (s 65 5) → ¬ y1 < (s 65 4) → B none s)
    (k5 : ¬ (s 65 4) = (-1) → y2 ≤ (s 65 5) → y2 = (s 65 5) → y1 < (s 65 4) → ∀ s5 : jg_H, s5 = jg_up s 65 4 y1 → ∀ s6 : jg_H, s6 = jg_up s5 65 5 y2 → B none s6) :
    q_W G (d + 1) jm_C_search B 33 [some (.ref 0), some (.ref x1), some (.int x2), some (.int x3), some (.int x4), some (.int x5), some (.ref 65), none] [.int y2, .int y1, .ref 65] s := by
  refine q_virt (pc' := 36) (c := 65) (as := [.int y1, .int y2]) (r := []) ja_C_search_33 rfl rfl rfl (by decide) ⟨rfl, by decide⟩ ?_
  refine q_in (M := jm_Foresight_weigh) rfl (Nat.le_of_ble_eq_true rfl) (ls := [some (.ref 65), some (.int y1), some (.int y2), none]) rfl ?_
  refine q_aload_n (pc' := 1) ja_Foresight_weigh_0 rfl rfl ?_
  refine q_getf (pc' := 4) (v := .int (s 65 4)) ja_Foresight_weigh_1 rfl (by decide) ⟨rfl, by decide⟩ rfl ?_
  refine q_iconst (pc' := 5) ja_Foresight_weigh_4 rfl (-1) (by decide) ?_
  refine q_ic_eq (pc' := 8) ja_Foresight_weigh_5 rfl ?_ ?_
  · intro h1
    refine q_iconst (pc' := 33) ja_Foresight_weigh_32 rfl 1 (by decide) ?_
    refine q_goto ja_Foresight_weigh_33 ?_
    refine q_istore_n (pc' := 38) (ls' := [some (.ref 65), some (.int y1), some (.int y2), some (.int 1)]) ja_Foresight_weigh_37 rfl ⟨Nat.le_of_ble_eq_true rfl, rfl⟩ rfl ?_
    refine q_iload_n (pc' := 39) ja_Foresight_weigh_38 rfl rfl ?_
    refine q_if_ne (pc' := 42) ja_Foresight_weigh_39 rfl (fun _ => ?_) (fun h => absurd h ((by decide : ¬ (1 : Int32) = 0)))
    refine q_aload_n (pc' := 44) ja_Foresight_weigh_43 rfl rfl ?_
    refine q_iload_n (pc' := 45) ja_Foresight_weigh_44 rfl rfl ?_
    refine q_putf (pc' := 48) ja_Foresight_weigh_45 rfl (by decide) rfl rfl rfl ?_
    intro s1 e1
    refine q_aload_n (pc' := 49) ja_Foresight_weigh_48 rfl rfl ?_
    refine q_iload_n (pc' := 50) ja_Foresight_weigh_49 rfl rfl ?_
    refine q_putf (pc' := 53) ja_Foresight_weigh_50 rfl (by decide) rfl rfl rfl ?_
    intro s2 e2
    refine q_vret ja_Foresight_weigh_53 rfl ?_
    show q_W _ _ _ _ 36 [some (.ref 0), some (.ref x1), some (.int x2), some (.int x3), some (.int x4), some (.int x5), some (.ref 65), none] [] s2
    exact q_vret ja_C_search_36 rfl (k1 h1 s1 e1 s2 e2)
  · intro h2
    refine q_iload_n (pc' := 9) ja_Foresight_weigh_8 rfl rfl ?_
    refine q_aload_n (pc' := 10) ja_Foresight_weigh_9 rfl rfl ?_
    refine q_getf (pc' := 13) (v := .int (s 65 5)) ja_Foresight_weigh_10 rfl (by decide) ⟨rfl, by decide⟩ rfl ?_
    refine q_ic_gt (pc' := 16) ja_Foresight_weigh_13 rfl ?_ ?_
    · intro h3
      refine q_iconst (pc' := 33) ja_Foresight_weigh_32 rfl 1 (by decide) ?_
      refine q_goto ja_Foresight_weigh_33 ?_
      refine q_istore_n (pc' := 38) (ls' := [some (.ref 65), some (.int y1), some (.int y2), some (.int 1)]) ja_Foresight_weigh_37 rfl ⟨Nat.le_of_ble_eq_true rfl, rfl⟩ rfl ?_
      refine q_iload_n (pc' := 39) ja_Foresight_weigh_38 rfl rfl ?_
      refine q_if_ne (pc' := 42) ja_Foresight_weigh_39 rfl (fun _ => ?_) (fun h => absurd h ((by decide : ¬ (1 : Int32) = 0)))
      refine q_aload_n (pc' := 44) ja_Foresight_weigh_43 rfl rfl ?_
      refine q_iload_n (pc' := 45) ja_Foresight_weigh_44 rfl rfl ?_
      refine q_putf (pc' := 48) ja_Foresight_weigh_45 rfl (by decide) rfl rfl rfl ?_
      intro s3 e3
      refine q_aload_n (pc' := 49) ja_Foresight_weigh_48 rfl rfl ?_
      refine q_iload_n (pc' := 50) ja_Foresight_weigh_49 rfl rfl ?_
      refine q_putf (pc' := 53) ja_Foresight_weigh_50 rfl (by decide) rfl rfl rfl ?_
      intro s4 e4
      refine q_vret ja_Foresight_weigh_53 rfl ?_
      show q_W _ _ _ _ 36 [some (.ref 0), some (.ref x1), some (.int x2), some (.int x3), some (.int x4), some (.int x5), some (.ref 65), none] [] s4
      exact q_vret ja_C_search_36 rfl (k2 h2 h3 s3 e3 s4 e4)
    · intro h4
      refine q_iload_n (pc' := 17) ja_Foresight_weigh_16 rfl rfl ?_
      refine q_aload_n (pc' := 18) ja_Foresight_weigh_17 rfl rfl ?_
      refine q_getf (pc' := 21) (v := .int (s 65 5)) ja_Foresight_weigh_18 rfl (by decide) ⟨rfl, by decide⟩ rfl ?_
      refine q_ic_ne (pc' := 24) ja_Foresight_weigh_21 rfl ?_ ?_
      · intro h5
        refine q_iconst (pc' := 37) ja_Foresight_weigh_36 rfl 0 (by decide) ?_
        refine q_istore_n (pc' := 38) (ls' := [some (.ref 65), some (.int y1), some (.int y2), some (.int 0)]) ja_Foresight_weigh_37 rfl ⟨Nat.le_of_ble_eq_true rfl, rfl⟩ rfl ?_
        refine q_iload_n (pc' := 39) ja_Foresight_weigh_38 rfl rfl ?_
        refine q_if_ne (pc' := 42) ja_Foresight_weigh_39 rfl (fun h => absurd ((by decide : (0 : Int32) = 0)) h) (fun _ => ?_)
        refine q_vret ja_Foresight_weigh_42 rfl ?_
        show q_W _ _ _ _ 36 [some (.ref 0), some (.ref x1), some (.int x2), some (.int x3), some (.int x4), some (.int x5), some (.ref 65), none] [] s
        exact q_vret ja_C_search_36 rfl (k3 h2 h4 h5)
      · intro h6
        refine q_iload_n (pc' := 25) ja_Foresight_weigh_24 rfl rfl ?_
        refine q_aload_n (pc' := 26) ja_Foresight_weigh_25 rfl rfl ?_
        refine q_getf (pc' := 29) (v := .int (s 65 4)) ja_Foresight_weigh_26 rfl (by decide) ⟨rfl, by decide⟩ rfl ?_
        refine q_ic_ge (pc' := 32) ja_Foresight_weigh_29 rfl ?_ ?_
        · intro h7
          refine q_iconst (pc' := 37) ja_Foresight_weigh_36 rfl 0 (by decide) ?_
          refine q_istore_n (pc' := 38) (ls' := [some (.ref 65), some (.int y1), some (.int y2), some (.int 0)]) ja_Foresight_weigh_37 rfl ⟨Nat.le_of_ble_eq_true rfl, rfl⟩ rfl ?_
          refine q_iload_n (pc' := 39) ja_Foresight_weigh_38 rfl rfl ?_
          refine q_if_ne (pc' := 42) ja_Foresight_weigh_39 rfl (fun h => absurd ((by decide : (0 : Int32) = 0)) h) (fun _ => ?_)
          refine q_vret ja_Foresight_weigh_42 rfl ?_
          show q_W _ _ _ _ 36 [some (.ref 0), some (.ref x1), some (.int x2), some (.int x3), some (.int x4), some (.int x5), some (.ref 65), none] [] s
          exact q_vret ja_C_search_36 rfl (k4 h2 h4 h6 h7)
        · intro h8
          refine q_iconst (pc' := 33) ja_Foresight_weigh_32 rfl 1 (by decide) ?_
          refine q_goto ja_Foresight_weigh_33 ?_
          refine q_istore_n (pc' := 38) (ls' := [some (.ref 65), some (.int y1), some (.int y2), some (.int 1)]) ja_Foresight_weigh_37 rfl ⟨Nat.le_of_ble_eq_true rfl, rfl⟩ rfl ?_
          refine q_iload_n (pc' := 39) ja_Foresight_weigh_38 rfl rfl ?_
          refine q_if_ne (pc' := 42) ja_Foresight_weigh_39 rfl (fun _ => ?_) (fun h => absurd h ((by decide : ¬ (1 : Int32) = 0)))
          refine q_aload_n (pc' := 44) ja_Foresight_weigh_43 rfl rfl ?_
          refine q_iload_n (pc' := 45) ja_Foresight_weigh_44 rfl rfl ?_
          refine q_putf (pc' := 48) ja_Foresight_weigh_45 rfl (by decide) rfl rfl rfl ?_
          intro s5 e5
          refine q_aload_n (pc' := 49) ja_Foresight_weigh_48 rfl rfl ?_
          refine q_iload_n (pc' := 50) ja_Foresight_weigh_49 rfl rfl ?_
          refine q_putf (pc' := 53) ja_Foresight_weigh_50 rfl (by decide) rfl rfl rfl ?_
          intro s6 e6
          refine q_vret ja_Foresight_weigh_53 rfl ?_
          show q_W _ _ _ _ 36 [some (.ref 0), some (.ref x1), some (.int x2), some (.int x3), some (.int x4), some (.int x5), some (.ref 65), none] [] s6
          exact q_vret ja_C_search_36 rfl (k5 h2 h4 h6 h8 s5 e5 s6 e6)
set_option maxRecDepth 20000 in
theorem t_C_search_40 {G : jv_X} {d : Nat} {B : Option Value → jg_H → Prop} {s : jg_H} {x1 : Nat} (hx1 : f_5 x1) (x2 : Int32) (x3 : Int32) (x4 : Int32) (x5 : Int32) (x7 : Int32)
    (k1 : ¬ x7 < (s 66 0) → B none s)
    (k2 : x7 < (s 66 0) → ((x3 >>> (x7 &&& 31)) &&& 1) = 0 → q_P G (d + 1) 111 [.ref 0, .int x2, .int x7] s (fun v t => q_W G (d + 1) jm_C_search B 72 [some (.ref 0), some (.ref x1), some (.int x2), some (.int x3), some (.int x4), some (.int x5), some (.ref 65), some (.int x7)] (v.toList ++ []) t))
    (k3 : x7 < (s 66 0) → ¬ ((x3 >>> (x7 &&& 31)) &&& 1) = 0 → q_W G (d + 1) jm_C_search B 40 [some (.ref 0), some (.ref x1), some (.int x2), some (.int x3), some (.int x4), some (.int x5), some (.ref 65), some (.int (x7 + 1))] [] s) :
    q_W G (d + 1) jm_C_search B 40 [some (.ref 0), some (.ref x1), some (.int x2), some (.int x3), some (.int x4), some (.int x5), some (.ref 65), some (.int x7)] [] s := by
  refine q_iload (pc' := 42) ja_C_search_40 rfl rfl ?_
  refine q_aload (pc' := 44) ja_C_search_42 rfl rfl ?_
  refine q_getf (pc' := 47) (v := .ref 66) ja_C_search_44 rfl (by decide) ⟨rfl, by decide⟩ rfl ?_
  refine q_getf (pc' := 50) (v := .int (s 66 0)) ja_C_search_47 rfl (by decide) ⟨rfl, by decide⟩ rfl ?_
  refine q_ic_ge (pc' := 53) ja_C_search_50 rfl ?_ ?_
  · intro h1
    exact q_vret ja_C_search_105 rfl (k1 h1)
  · intro h2
    refine q_iload_n (pc' := 54) ja_C_search_53 rfl rfl ?_
    refine q_iload (pc' := 56) ja_C_search_54 rfl rfl ?_
    refine q_ishr (pc' := 57) ja_C_search_56 rfl ?_
    refine q_iconst (pc' := 58) ja_C_search_57 rfl 1 (by decide) ?_
    refine q_iand (pc' := 59) ja_C_search_58 rfl ?_
    refine q_if_eq (pc' := 62) ja_C_search_59 rfl ?_ ?_
    · intro h3
      refine q_aload_n (pc' := 66) ja_C_search_65 rfl rfl ?_
      refine q_iload_n (pc' := 67) ja_C_search_66 rfl rfl ?_
      refine q_iload (pc' := 69) ja_C_search_67 rfl rfl ?_
      refine q_virt (pc' := 72) (c := 0) (as := [.int x2, .int x7]) (r := []) ja_C_search_69 rfl rfl rfl (by decide) ⟨rfl, by decide⟩ ?_
      exact (k2 h2 h3)
    · intro h4
      refine q_goto ja_C_search_62 ?_
      refine q_iinc (pc' := 102) (ls' := [some (.ref 0), some (.ref x1), some (.int x2), some (.int x3), some (.int x4), some (.int x5), some (.ref 65), some (.int (x7 + 1))]) ja_C_search_99 rfl rfl (x7 + 1) rfl ⟨Nat.le_of_ble_eq_true rfl, rfl⟩ rfl ?_
      refine q_goto ja_C_search_102 ?_
      exact (k3 h2 h4)
set_option maxRecDepth 20000 in
theorem t_C_search_72 {G : jv_X} {d : Nat} {B : Option Value → jg_H → Prop} {s : jg_H} {x1 : Nat} (hx1 : f_5 x1) (x2 : Int32) (x3 : Int32) (x4 : Int32) (x5 : Int32) (x7 : Int32)
    (k1 : q_P G (d + 1) 115 [.ref 0, .ref x1, .int (x2 + 1), .int (x3 ||| (1 <<< (x7 &&& 31))), .int (x4 + (x7 * x5)), .int (x5 * 6)] s (fun v t => q_W G (d + 1) jm_C_search B 99 [some (.ref 0), some (.ref x1), some (.int x2), some (.int x3), some (.int x4), some (.int x5), some (.ref 65), some (.int x7)] (v.toList ++ []) t)) :
    q_W G (d + 1) jm_C_search B 72 [some (.ref 0), some (.ref x1), some (.int x2), some (.int x3), some (.int x4), some (.int x5), some (.ref 65), some (.int x7)] [] s := by
  refine q_aload_n (pc' := 73) ja_C_search_72 rfl rfl ?_
  refine q_aload_n (pc' := 74) ja_C_search_73 rfl rfl ?_
  refine q_iload_n (pc' := 75) ja_C_search_74 rfl rfl ?_
  refine q_iconst (pc' := 76) ja_C_search_75 rfl 1 (by decide) ?_
  refine q_iadd (pc' := 77) ja_C_search_76 rfl ?_
  refine q_iload_n (pc' := 78) ja_C_search_77 rfl rfl ?_
  refine q_iconst (pc' := 79) ja_C_search_78 rfl 1 (by decide) ?_
  refine q_iload (pc' := 81) ja_C_search_79 rfl rfl ?_
  refine q_ishl (pc' := 82) ja_C_search_81 rfl ?_
  refine q_ior (pc' := 83) ja_C_search_82 rfl ?_
  refine q_iload (pc' := 85) ja_C_search_83 rfl rfl ?_
  refine q_iload (pc' := 87) ja_C_search_85 rfl rfl ?_
  refine q_iload (pc' := 89) ja_C_search_87 rfl rfl ?_
  refine q_imul (pc' := 90) ja_C_search_89 rfl ?_
  refine q_iadd (pc' := 91) ja_C_search_90 rfl ?_
  refine q_iload (pc' := 93) ja_C_search_91 rfl rfl ?_
  refine q_bipush (pc' := 95) ja_C_search_93 rfl 6 (by decide) ?_
  refine q_imul (pc' := 96) ja_C_search_95 rfl ?_
  refine q_stat (pc' := 99) (as := [.ref 0, .ref x1, .int (x2 + 1), .int (x3 ||| (1 <<< (x7 &&& 31))), .int (x4 + (x7 * x5)), .int (x5 * 6)]) (r := []) ja_C_search_96 rfl (by decide) rfl rfl ?_
  exact k1
set_option maxRecDepth 20000 in
theorem t_C_search_99 {G : jv_X} {d : Nat} {B : Option Value → jg_H → Prop} {s : jg_H} {x1 : Nat} (hx1 : f_5 x1) (x2 : Int32) (x3 : Int32) (x4 : Int32) (x5 : Int32) (x7 : Int32)
    (k1 : q_W G (d + 1) jm_C_search B 40 [some (.ref 0), some (.ref x1), some (.int x2), some (.int x3), some (.int x4), some (.int x5), some (.ref 65), some (.int (x7 + 1))] [] s) :
    q_W G (d + 1) jm_C_search B 99 [some (.ref 0), some (.ref x1), some (.int x2), some (.int x3), some (.int x4), some (.int x5), some (.ref 65), some (.int x7)] [] s := by
  refine q_iinc (pc' := 102) (ls' := [some (.ref 0), some (.ref x1), some (.int x2), some (.int x3), some (.int x4), some (.int x5), some (.ref 65), some (.int (x7 + 1))]) ja_C_search_99 rfl rfl (x7 + 1) rfl ⟨Nat.le_of_ble_eq_true rfl, rfl⟩ rfl ?_
  refine q_goto ja_C_search_102 ?_
  exact k1
set_option maxRecDepth 20000 in
theorem t_C_section {G : jv_X} {d : Nat} {B : Option Value → jg_H → Prop} {s : jg_H} (a1 : Int32) (a2 : Int32)
    (k1 : a1 < 0 → B (some (.int (-2))) s)
    (k2 : ¬ a1 < 0 → ¬ a1 < (s 0 3) → B (some (.int (-2))) s)
    (k3 : ¬ a1 < 0 → a1 < (s 0 3) → ¬ a1 < 8 → B (some (.int (-2))) s)
    (k4 : ¬ a1 < 0 → a1 < (s 0 3) → a1 < 8 → a2 < 1 → B (some (.int (-2))) s)
    (k5 : ¬ a1 < 0 → a1 < (s 0 3) → a1 < 8 → ¬ a2 < 1 → ¬ a2 ≤ 60 → B (some (.int (-2))) s)
    (k6 : ¬ a1 < 0 → a1 < (s 0 3) → a1 < 8 → ¬ a2 < 1 → a2 ≤ 60 → (s (33 + 3 * a1.toNatClampNeg) 0) = 0 → (s ((33 + 3 * a1.toNatClampNeg) + 1) 0) < 10 → q_P G (d + 1) 54 [.ref ((33 + 3 * a1.toNatClampNeg) + 1), .int 2, .int (s ((33 + 3 * a1.toNatClampNeg) + 1) 0), .int a2] s (fun v t => q_W G (d + 1) jm_C_section B 63 [some (.ref 0), some (.int a1), some (.int a2), some (.ref ((33 + 3 * a1.toNatClampNeg) + 1))] (v.toList ++ []) t))
    (k7 : ¬ a1 < 0 → a1 < (s 0 3) → a1 < 8 → ¬ a2 < 1 → a2 ≤ 60 → (s (33 + 3 * a1.toNatClampNeg) 0) = 0 → ¬ (s ((33 + 3 * a1.toNatClampNeg) + 1) 0) < 10 → B (some (.int (-4))) s)
    (k8 : ¬ a1 < 0 → a1 < (s 0 3) → a1 < 8 → ¬ a2 < 1 → a2 ≤ 60 → ¬ (s (33 + 3 * a1.toNatClampNeg) 0) = 0 → B (some (.int (-3))) s) :
    q_P G (d + 2) 51 [.ref 0, .int a1, .int a2] s B := by
  refine q_in (M := jm_C_section) rfl (Nat.le_of_ble_eq_true rfl) (ls := [some (.ref 0), some (.int a1), some (.int a2), none]) rfl ?_
  refine q_aload_n (pc' := 1) ja_C_section_0 rfl rfl ?_
  refine q_iload_n (pc' := 2) ja_C_section_1 rfl rfl ?_
  refine q_virt (pc' := 5) (c := 0) (as := [.int a1]) (r := []) ja_C_section_2 rfl rfl rfl (by decide) ⟨rfl, by decide⟩ ?_
  refine q_in (M := jm_C_isBill) rfl (Nat.le_of_ble_eq_true rfl) (ls := [some (.ref 0), some (.int a1)]) rfl ?_
  refine q_iload_n (pc' := 1) ja_C_isBill_0 rfl rfl ?_
  refine q_if_lt (pc' := 4) ja_C_isBill_1 rfl ?_ ?_
  · intro h1
    refine q_iconst (pc' := 26) ja_C_isBill_25 rfl 0 (by decide) ?_
    refine q_iret ja_C_isBill_26 rfl (by decide) ?_
    show q_W _ _ _ _ 5 [some (.ref 0), some (.int a1), some (.int a2), none] [.int 0] s
    refine q_if_eq (pc' := 8) ja_C_section_5 rfl (fun _ => ?_) (fun h => absurd ((by decide : (0 : Int32) = 0)) h)
    refine q_bipush (pc' := 17) ja_C_section_15 rfl (-2) (by decide) ?_
    exact q_iret ja_C_section_17 rfl rfl (k1 h1)
  · intro h2
    refine q_iload_n (pc' := 5) ja_C_isBill_4 rfl rfl ?_
    refine q_aload_n (pc' := 6) ja_C_isBill_5 rfl rfl ?_
    refine q_getf (pc' := 9) (v := .int (s 0 3)) ja_C_isBill_6 rfl (by decide) ⟨rfl, by decide⟩ rfl ?_
    refine q_ic_ge (pc' := 12) ja_C_isBill_9 rfl ?_ ?_
    · intro h3
      refine q_iconst (pc' := 26) ja_C_isBill_25 rfl 0 (by decide) ?_
      refine q_iret ja_C_isBill_26 rfl (by decide) ?_
      show q_W _ _ _ _ 5 [some (.ref 0), some (.int a1), some (.int a2), none] [.int 0] s
      refine q_if_eq (pc' := 8) ja_C_section_5 rfl (fun _ => ?_) (fun h => absurd ((by decide : (0 : Int32) = 0)) h)
      refine q_bipush (pc' := 17) ja_C_section_15 rfl (-2) (by decide) ?_
      exact q_iret ja_C_section_17 rfl rfl (k2 h2 h3)
    · intro h4
      refine q_iload_n (pc' := 13) ja_C_isBill_12 rfl rfl ?_
      refine q_aload_n (pc' := 14) ja_C_isBill_13 rfl rfl ?_
      refine q_getf (pc' := 17) (v := .ref 32) ja_C_isBill_14 rfl (by decide) ⟨rfl, by decide⟩ rfl ?_
      refine q_alen (pc' := 18) ja_C_isBill_17 rfl (by decide) (kd := 17) (l := 8) rfl (by decide) (v := 8) (by decide) ?_
      refine q_ic_ge (pc' := 21) ja_C_isBill_18 rfl ?_ ?_
      · intro h5
        refine q_iconst (pc' := 26) ja_C_isBill_25 rfl 0 (by decide) ?_
        refine q_iret ja_C_isBill_26 rfl (by decide) ?_
        show q_W _ _ _ _ 5 [some (.ref 0), some (.int a1), some (.int a2), none] [.int 0] s
        refine q_if_eq (pc' := 8) ja_C_section_5 rfl (fun _ => ?_) (fun h => absurd ((by decide : (0 : Int32) = 0)) h)
        refine q_bipush (pc' := 17) ja_C_section_15 rfl (-2) (by decide) ?_
        exact q_iret ja_C_section_17 rfl rfl (k3 h2 h4 h5)
      · intro h6
        refine q_iconst (pc' := 22) ja_C_isBill_21 rfl 1 (by decide) ?_
        refine q_goto ja_C_isBill_22 ?_
        refine q_iret ja_C_isBill_26 rfl (by decide) ?_
        show q_W _ _ _ _ 5 [some (.ref 0), some (.int a1), some (.int a2), none] [.int 1] s
        refine q_if_eq (pc' := 8) ja_C_section_5 rfl (fun h => absurd h ((by decide : ¬ (1 : Int32) = 0))) (fun _ => ?_)
        refine q_iload_n (pc' := 9) ja_C_section_8 rfl rfl ?_
        refine q_stat (pc' := 12) (as := [.int a2]) (r := []) ja_C_section_9 rfl (by decide) rfl rfl ?_
        refine q_in (M := jm_C_isWord) rfl (Nat.le_of_ble_eq_true rfl) (ls := [some (.int a2)]) rfl ?_
        refine q_iload_n (pc' := 1) ja_C_isWord_0 rfl rfl ?_
        refine q_iconst (pc' := 2) ja_C_isWord_1 rfl 1 (by decide) ?_
        refine q_ic_lt (pc' := 5) ja_C_isWord_2 rfl ?_ ?_
        · intro h7
          refine q_iconst (pc' := 16) ja_C_isWord_15 rfl 0 (by decide) ?_
          refine q_iret ja_C_isWord_16 rfl (by decide) ?_
          show q_W _ _ _ _ 12 [some (.ref 0), some (.int a1), some (.int a2), none] [.int 0] s
          refine q_if_ne (pc' := 15) ja_C_section_12 rfl (fun h => absurd ((by decide : (0 : Int32) = 0)) h) (fun _ => ?_)
          refine q_bipush (pc' := 17) ja_C_section_15 rfl (-2) (by decide) ?_
          exact q_iret ja_C_section_17 rfl rfl (k4 h2 h4 h6 h7)
        · intro h8
          refine q_iload_n (pc' := 6) ja_C_isWord_5 rfl rfl ?_
          refine q_bipush (pc' := 8) ja_C_isWord_6 rfl 60 (by decide) ?_
          refine q_ic_gt (pc' := 11) ja_C_isWord_8 rfl ?_ ?_
          · intro h9
            refine q_iconst (pc' := 16) ja_C_isWord_15 rfl 0 (by decide) ?_
            refine q_iret ja_C_isWord_16 rfl (by decide) ?_
            show q_W _ _ _ _ 12 [some (.ref 0), some (.int a1), some (.int a2), none] [.int 0] s
            refine q_if_ne (pc' := 15) ja_C_section_12 rfl (fun h => absurd ((by decide : (0 : Int32) = 0)) h) (fun _ => ?_)
            refine q_bipush (pc' := 17) ja_C_section_15 rfl (-2) (by decide) ?_
            exact q_iret ja_C_section_17 rfl rfl (k5 h2 h4 h6 h8 h9)
          · intro h10
            refine q_iconst (pc' := 12) ja_C_isWord_11 rfl 1 (by decide) ?_
            refine q_goto ja_C_isWord_12 ?_
            refine q_iret ja_C_isWord_16 rfl (by decide) ?_
            show q_W _ _ _ _ 12 [some (.ref 0), some (.int a1), some (.int a2), none] [.int 1] s
            refine q_if_ne (pc' := 15) ja_C_section_12 rfl (fun _ => ?_) (fun h => absurd h ((by decide : ¬ (1 : Int32) = 0)))
            refine q_aload_n (pc' := 19) ja_C_section_18 rfl rfl ?_
            refine q_getf (pc' := 22) (v := .ref 32) ja_C_section_19 rfl (by decide) ⟨rfl, by decide⟩ rfl ?_
            refine q_iload_n (pc' := 23) ja_C_section_22 rfl rfl ?_
            refine q_aald (pc' := 24) (v := .ref (33 + 3 * a1.toNatClampNeg)) ja_C_section_23 rfl (by decide) (kd := 17) (l := 8) rfl (by decide) (q_inr (l := 8) (by decide) h2 h6) (f_A32 (f_in (q_inr (l := 8) (by decide) h2 h6))) ?_
            refine q_getf (pc' := 27) (v := .int (s (33 + 3 * a1.toNatClampNeg) 0)) ja_C_section_24 rfl (f_1_c (f_m32 (f_in (q_inr (l := 8) (by decide) h2 h6)))) ⟨by rw [f_1_k (f_m32 (f_in (q_inr (l := 8) (by decide) h2 h6)))], by decide⟩ (f_i (f_1_k (f_m32 (f_in (q_inr (l := 8) (by decide) h2 h6)))) rfl) ?_
            refine q_if_eq (pc' := 30) ja_C_section_27 rfl ?_ ?_
            · intro h11
              refine q_aload_n (pc' := 34) ja_C_section_33 rfl rfl ?_
              refine q_getf (pc' := 37) (v := .ref 32) ja_C_section_34 rfl (by decide) ⟨rfl, by decide⟩ rfl ?_
              refine q_iload_n (pc' := 38) ja_C_section_37 rfl rfl ?_
              refine q_aald (pc' := 39) (v := .ref (33 + 3 * a1.toNatClampNeg)) ja_C_section_38 rfl (by decide) (kd := 17) (l := 8) rfl (by decide) (q_inr (l := 8) (by decide) h2 h6) (f_A32 (f_in (q_inr (l := 8) (by decide) h2 h6))) ?_
              refine q_getf (pc' := 42) (v := .ref ((33 + 3 * a1.toNatClampNeg) + 1)) ja_C_section_39 rfl (f_1_c (f_m32 (f_in (q_inr (l := 8) (by decide) h2 h6)))) ⟨by rw [f_1_k (f_m32 (f_in (q_inr (l := 8) (by decide) h2 h6)))], by decide⟩ (f_1_g2 (f_m32 (f_in (q_inr (l := 8) (by decide) h2 h6)))) ?_
              refine q_astore_n (pc' := 43) (ls' := [some (.ref 0), some (.int a1), some (.int a2), some (.ref ((33 + 3 * a1.toNatClampNeg) + 1))]) ja_C_section_42 rfl ⟨Nat.le_of_ble_eq_true rfl, rfl⟩ rfl ?_
              refine q_aload_n (pc' := 44) ja_C_section_43 rfl rfl ?_
              refine q_virt (pc' := 47) (c := ((33 + 3 * a1.toNatClampNeg) + 1)) (as := []) (r := []) ja_C_section_44 rfl rfl rfl (f_8_c (f_1_s2 (f_m32 (f_in (q_inr (l := 8) (by decide) h2 h6))))) ⟨by rw [f_8_k (f_1_s2 (f_m32 (f_in (q_inr (l := 8) (by decide) h2 h6))))], by decide⟩ ?_
              refine q_in (M := jm_Sections_isFull) rfl (Nat.le_of_ble_eq_true rfl) (ls := [some (.ref ((33 + 3 * a1.toNatClampNeg) + 1))]) rfl ?_
              refine q_aload_n (pc' := 1) ja_Sections_isFull_0 rfl rfl ?_
              refine q_getf (pc' := 4) (v := .int (s ((33 + 3 * a1.toNatClampNeg) + 1) 0)) ja_Sections_isFull_1 rfl (f_8_c (f_1_s2 (f_m32 (f_in (q_inr (l := 8) (by decide) h2 h6))))) ⟨by rw [f_8_k (f_1_s2 (f_m32 (f_in (q_inr (l := 8) (by decide) h2 h6))))], by decide⟩ (f_i (f_8_k (f_1_s2 (f_m32 (f_in (q_inr (l := 8) (by decide) h2 h6))))) rfl) ?_
              refine q_aload_n (pc' := 5) ja_Sections_isFull_4 rfl rfl ?_
              refine q_getf (pc' := 8) (v := .ref (((33 + 3 * a1.toNatClampNeg) + 1) + 1)) ja_Sections_isFull_5 rfl (f_8_c (f_1_s2 (f_m32 (f_in (q_inr (l := 8) (by decide) h2 h6))))) ⟨by rw [f_8_k (f_1_s2 (f_m32 (f_in (q_inr (l := 8) (by decide) h2 h6))))], by decide⟩ (f_8_g1 (f_1_s2 (f_m32 (f_in (q_inr (l := 8) (by decide) h2 h6))))) ?_
              refine q_alen (pc' := 9) ja_Sections_isFull_8 rfl (f_a_c (f_8_s1 (f_1_s2 (f_m32 (f_in (q_inr (l := 8) (by decide) h2 h6)))))) (kd := 13) (l := 10) (f_a_k (f_8_s1 (f_1_s2 (f_m32 (f_in (q_inr (l := 8) (by decide) h2 h6)))))) (by decide) (v := 10) (by decide) ?_
              refine q_ic_lt (pc' := 12) ja_Sections_isFull_9 rfl ?_ ?_
              · intro h12
                refine q_iconst (pc' := 17) ja_Sections_isFull_16 rfl 0 (by decide) ?_
                refine q_iret ja_Sections_isFull_17 rfl (by decide) ?_
                show q_W _ _ _ _ 47 [some (.ref 0), some (.int a1), some (.int a2), some (.ref ((33 + 3 * a1.toNatClampNeg) + 1))] [.int 0] s
                refine q_if_eq (pc' := 50) ja_C_section_47 rfl (fun _ => ?_) (fun h => absurd ((by decide : (0 : Int32) = 0)) h)
                refine q_aload_n (pc' := 54) ja_C_section_53 rfl rfl ?_
                refine q_iconst (pc' := 55) ja_C_section_54 rfl 2 (by decide) ?_
                refine q_aload_n (pc' := 56) ja_C_section_55 rfl rfl ?_
                refine q_getf (pc' := 59) (v := .int (s ((33 + 3 * a1.toNatClampNeg) + 1) 0)) ja_C_section_56 rfl (f_8_c (f_1_s2 (f_m32 (f_in (q_inr (l := 8) (by decide) h2 h6))))) ⟨by rw [f_8_k (f_1_s2 (f_m32 (f_in (q_inr (l := 8) (by decide) h2 h6))))], by decide⟩ (f_i (f_8_k (f_1_s2 (f_m32 (f_in (q_inr (l := 8) (by decide) h2 h6))))) rfl) ?_
                refine q_iload_n (pc' := 60) ja_C_section_59 rfl rfl ?_
                refine q_virt (pc' := 63) (c := ((33 + 3 * a1.toNatClampNeg) + 1)) (as := [.int 2, .int (s ((33 + 3 * a1.toNatClampNeg) + 1) 0), .int a2]) (r := []) ja_C_section_60 rfl rfl rfl (f_8_c (f_1_s2 (f_m32 (f_in (q_inr (l := 8) (by decide) h2 h6))))) ⟨by rw [f_8_k (f_1_s2 (f_m32 (f_in (q_inr (l := 8) (by decide) h2 h6))))], by decide⟩ ?_
                exact (k6 h2 h4 h6 h8 h10 h11 h12)
              · intro h13
                refine q_iconst (pc' := 13) ja_Sections_isFull_12 rfl 1 (by decide) ?_
                refine q_goto ja_Sections_isFull_13 ?_
                refine q_iret ja_Sections_isFull_17 rfl (by decide) ?_
                show q_W _ _ _ _ 47 [some (.ref 0), some (.int a1), some (.int a2), some (.ref ((33 + 3 * a1.toNatClampNeg) + 1))] [.int 1] s
                refine q_if_eq (pc' := 50) ja_C_section_47 rfl (fun h => absurd h ((by decide : ¬ (1 : Int32) = 0))) (fun _ => ?_)
                refine q_bipush (pc' := 52) ja_C_section_50 rfl (-4) (by decide) ?_
                exact q_iret ja_C_section_52 rfl rfl (k7 h2 h4 h6 h8 h10 h11 h13)
            · intro h14
              refine q_bipush (pc' := 32) ja_C_section_30 rfl (-3) (by decide) ?_
              exact q_iret ja_C_section_32 rfl rfl (k8 h2 h4 h6 h8 h10 h14)
set_option maxRecDepth 20000 in
theorem t_C_section_63 {G : jv_X} {d : Nat} {B : Option Value → jg_H → Prop} {s : jg_H} (x1 : Int32) (x2 : Int32) {x3 : Nat} (hx3 : f_8 x3) (y0 : Int32)
    (k1 : B (some (.int (s x3 0))) s) :
    q_W G (d + 1) jm_C_section B 63 [some (.ref 0), some (.int x1), some (.int x2), some (.ref x3)] [.int y0] s := by
  refine q_pop (pc' := 64) ja_C_section_63 rfl rfl ?_
  refine q_aload_n (pc' := 65) ja_C_section_64 rfl rfl ?_
  refine q_getf (pc' := 68) (v := .int (s x3 0)) ja_C_section_65 rfl (f_8_c hx3) ⟨by rw [f_8_k hx3], by decide⟩ (f_i (f_8_k hx3) rfl) ?_
  exact q_iret ja_C_section_68 rfl rfl k1
set_option maxRecDepth 20000 in
theorem t_C_settle {G : jv_X} {d : Nat} {B : Option Value → jg_H → Prop} {s : jg_H} {c1 l1 : Nat} (hc1 : f_a c1 l1) (a2 : Int32) (a3 : Int32) (a4 : Int32)
    (k1 : q_W G d jm_C_settle B 3 [some (.ref c1), some (.int a2), some (.int a3), some (.int a4), some (.int 0)] [] s) :
    q_P G (d + 1) 100 [.ref c1, .int a2, .int a3, .int a4] s B := by
  refine q_in (M := jm_C_settle) rfl (Nat.le_of_ble_eq_true rfl) (ls := [some (.ref c1), some (.int a2), some (.int a3), some (.int a4), none]) rfl ?_
  refine q_iconst (pc' := 1) ja_C_settle_0 rfl 0 (by decide) ?_
  refine q_istore (pc' := 3) (ls' := [some (.ref c1), some (.int a2), some (.int a3), some (.int a4), some (.int 0)]) ja_C_settle_1 rfl ⟨Nat.le_of_ble_eq_true rfl, rfl⟩ rfl ?_
  exact k1
set_option maxRecDepth 20000 in
theorem t_C_settle_3 {G : jv_X} {d : Nat} {B : Option Value → jg_H → Prop} {s : jg_H} {x0 Lx0 : Nat} (hx0 : f_a x0 Lx0) (x1 : Int32) (x2 : Int32) (x3 : Int32) (x4 : Int32)
    (k1 : ¬ x4 < x1 → B none s)
    (k2 : x4 < x1 → ¬ x4 < (Int32.ofNat Lx0) → B none s)
    (k3 : x4 < x1 → x4 < (Int32.ofNat Lx0) → ¬ x2 = 2 → ¬ x2 = 1 → q_W G d jm_C_settle B 3 [some (.ref x0), some (.int x1), some (.int x2), some (.int x3), some (.int (x4 + 1))] [] s)
    (k4 : x4 < x1 → x4 < (Int32.ofNat Lx0) → ¬ x2 = 2 → x2 = 1 → jv_in x4 Lx0 = true)
    (k5 : x4 < x1 → x4 < (Int32.ofNat Lx0) → ¬ x2 = 2 → x2 = 1 → ¬ (s x0 x4.toNatClampNeg) = x3 → jv_in x4 Lx0 = true)
    (k6 : x4 < x1 → x4 < (Int32.ofNat Lx0) → ¬ x2 = 2 → x2 = 1 → ¬ (s x0 x4.toNatClampNeg) = x3 → (s x0 x4.toNatClampNeg) ≤ x3 → q_W G d jm_C_settle B 3 [some (.ref x0), some (.int x1), some (.int x2), some (.int x3), some (.int (x4 + 1))] [] s)
    (k7 : x4 < x1 → x4 < (Int32.ofNat Lx0) → ¬ x2 = 2 → x2 = 1 → ¬ (s x0 x4.toNatClampNeg) = x3 → ¬ (s x0 x4.toNatClampNeg) ≤ x3 → jv_in x4 Lx0 = true)
    (k8 : x4 < x1 → x4 < (Int32.ofNat Lx0) → ¬ x2 = 2 → x2 = 1 → ¬ (s x0 x4.toNatClampNeg) = x3 → ¬ (s x0 x4.toNatClampNeg) ≤ x3 → jv_in x4 Lx0 = true)
    (k9 : x4 < x1 → x4 < (Int32.ofNat Lx0) → ¬ x2 = 2 → x2 = 1 → ¬ (s x0 x4.toNatClampNeg) = x3 → ¬ (s x0 x4.toNatClampNeg) ≤ x3 → ∀ s1 : jg_H, s1 = jg_up s x0 x4.toNatClampNeg ((s x0 x4.toNatClampNeg) - 1) → q_W G d jm_C_settle B 3 [some (.ref x0), some (.int x1), some (.int x2), some (.int x3), some (.int (x4 + 1))] [] s1)
    (k10 : x4 < x1 → x4 < (Int32.ofNat Lx0) → ¬ x2 = 2 → x2 = 1 → (s x0 x4.toNatClampNeg) = x3 → jv_in x4 Lx0 = true)
    (k11 : x4 < x1 → x4 < (Int32.ofNat Lx0) → ¬ x2 = 2 → x2 = 1 → (s x0 x4.toNatClampNeg) = x3 → ∀ s2 : jg_H, s2 = jg_up s x0 x4.toNatClampNeg (-1) → q_W G d jm_C_settle B 3 [some (.ref x0), some (.int x1), some (.int x2), some (.int x3), some (.int (x4 + 1))] [] s2)
    (k12 : x4 < x1 → x4 < (Int32.ofNat Lx0) → x2 = 2 → jv_in x4 Lx0 = true)
    (k13 : x4 < x1 → x4 < (Int32.ofNat Lx0) → x2 = 2 → (s x0 x4.toNatClampNeg) < x3 → ¬ x2 = 1 → q_W G d jm_C_settle B 3 [some (.ref x0), some (.int x1), some (.int x2), some (.int x3), some (.int (x4 + 1))] [] s)
    (k14 : x4 < x1 → x4 < (Int32.ofNat Lx0) → x2 = 2 → (s x0 x4.toNatClampNeg) < x3 → x2 = 1 → jv_in x4 Lx0 = true)
    (k15 : x4 < x1 → x4 < (Int32.ofNat Lx0) → x2 = 2 → (s x0 x4.toNatClampNeg) < x3 → x2 = 1 → ¬ (s x0 x4.toNatClampNeg) = x3 → jv_in x4 Lx0 = true)
    (k16 : x4 < x1 → x4 < (Int32.ofNat Lx0) → x2 = 2 → (s x0 x4.toNatClampNeg) < x3 → x2 = 1 → ¬ (s x0 x4.toNatClampNeg) = x3 → (s x0 x4.toNatClampNeg) ≤ x3 → q_W G d jm_C_settle B 3 [some (.ref x0), some (.int x1), some (.int x2), some (.int x3), some (.int (x4 + 1))] [] s)
    (k17 : x4 < x1 → x4 < (Int32.ofNat Lx0) → x2 = 2 → (s x0 x4.toNatClampNeg) < x3 → x2 = 1 → ¬ (s x0 x4.toNatClampNeg) = x3 → ¬ (s x0 x4.toNatClampNeg) ≤ x3 → jv_in x4 Lx0 = true)
    (k18 : x4 < x1 → x4 < (Int32.ofNat Lx0) → x2 = 2 → (s x0 x4.toNatClampNeg) < x3 → x2 = 1 → ¬ (s x0 x4.toNatClampNeg) = x3 → ¬ (s x0 x4.toNatClampNeg) ≤ x3 → jv_in x4 Lx0 = true)
    (k19 : x4 < x1 → x4 < (Int32.ofNat Lx0) → x2 = 2 → (s x0 x4.toNatClampNeg) < x3 → x2 = 1 → ¬ (s x0 x4.toNatClampNeg) = x3 → ¬ (s x0 x4.toNatClampNeg) ≤ x3 → ∀ s3 : jg_H, s3 = jg_up s x0 x4.toNatClampNeg ((s x0 x4.toNatClampNeg) - 1) → q_W G d jm_C_settle B 3 [some (.ref x0), some (.int x1), some (.int x2), some (.int x3), some (.int (x4 + 1))] [] s3)
    (k20 : x4 < x1 → x4 < (Int32.ofNat Lx0) → x2 = 2 → (s x0 x4.toNatClampNeg) < x3 → x2 = 1 → (s x0 x4.toNatClampNeg) = x3 → jv_in x4 Lx0 = true)
    (k21 : x4 < x1 → x4 < (Int32.ofNat Lx0) → x2 = 2 → (s x0 x4.toNatClampNeg) < x3 → x2 = 1 → (s x0 x4.toNatClampNeg) = x3 → ∀ s4 : jg_H, s4 = jg_up s x0 x4.toNatClampNeg (-1) → q_W G d jm_C_settle B 3 [some (.ref x0), some (.int x1), some (.int x2), some (.int x3), some (.int (x4 + 1))] [] s4)
    (k22 : x4 < x1 → x4 < (Int32.ofNat Lx0) → x2 = 2 → ¬ (s x0 x4.toNatClampNeg) < x3 → jv_in x4 Lx0 = true)
    (k23 : x4 < x1 → x4 < (Int32.ofNat Lx0) → x2 = 2 → ¬ (s x0 x4.toNatClampNeg) < x3 → jv_in x4 Lx0 = true)
    (k24 : x4 < x1 → x4 < (Int32.ofNat Lx0) → x2 = 2 → ¬ (s x0 x4.toNatClampNeg) < x3 → ∀ s5 : jg_H, s5 = jg_up s x0 x4.toNatClampNeg ((s x0 x4.toNatClampNeg) + 1) → q_W G d jm_C_settle B 3 [some (.ref x0), some (.int x1), some (.int x2), some (.int x3), some (.int (x4 + 1))] [] s5) :
    q_W G d jm_C_settle B 3 [some (.ref x0), some (.int x1), some (.int x2), some (.int x3), some (.int x4)] [] s := by
  refine q_iload (pc' := 5) ja_C_settle_3 rfl rfl ?_
  refine q_iload_n (pc' := 6) ja_C_settle_5 rfl rfl ?_
  refine q_ic_ge (pc' := 9) ja_C_settle_6 rfl ?_ ?_
  · intro h1
    exact q_vret ja_C_settle_88 rfl (k1 h1)
  · intro h2
    refine q_iload (pc' := 11) ja_C_settle_9 rfl rfl ?_
    refine q_aload_n (pc' := 12) ja_C_settle_11 rfl rfl ?_
    refine q_alen (pc' := 13) ja_C_settle_12 rfl (f_a_c hx0) (kd := 13) (l := Lx0) (f_a_k hx0) (by decide) rfl ?_
    refine q_ic_ge (pc' := 16) ja_C_settle_13 rfl ?_ ?_
    · intro h3
      exact q_vret ja_C_settle_88 rfl (k2 h2 h3)
    · intro h4
      refine q_iload_n (pc' := 17) ja_C_settle_16 rfl rfl ?_
      refine q_iconst (pc' := 18) ja_C_settle_17 rfl 2 (by decide) ?_
      refine q_ic_ne (pc' := 21) ja_C_settle_18 rfl ?_ ?_
      · intro h5
        refine q_iload_n (pc' := 41) ja_C_settle_40 rfl rfl ?_
        refine q_iconst (pc' := 42) ja_C_settle_41 rfl 1 (by decide) ?_
        refine q_ic_ne (pc' := 45) ja_C_settle_42 rfl ?_ ?_
        · intro h6
          refine q_iload_n (pc' := 62) ja_C_settle_61 rfl rfl ?_
          refine q_iconst (pc' := 63) ja_C_settle_62 rfl 1 (by decide) ?_
          refine q_ic_ne (pc' := 66) ja_C_settle_63 rfl (fun _ => ?_) (fun h => absurd h (h6))
          refine q_iinc (pc' := 85) (ls' := [some (.ref x0), some (.int x1), some (.int x2), some (.int x3), some (.int (x4 + 1))]) ja_C_settle_82 rfl rfl (x4 + 1) rfl ⟨Nat.le_of_ble_eq_true rfl, rfl⟩ rfl ?_
          refine q_goto ja_C_settle_85 ?_
          exact (k3 h2 h4 h5 h6)
        · intro h7
          refine q_aload_n (pc' := 46) ja_C_settle_45 rfl rfl ?_
          refine q_iload (pc' := 48) ja_C_settle_46 rfl rfl ?_
          refine q_iald (pc' := 49) (v := .int (s x0 x4.toNatClampNeg)) ja_C_settle_48 rfl (f_a_c hx0) (l := Lx0) (f_a_k hx0) (k4 h2 h4 h5 h7) (f_i (f_a_k hx0) rfl) ?_
          refine q_iload_n (pc' := 50) ja_C_settle_49 rfl rfl ?_
          refine q_ic_ne (pc' := 53) ja_C_settle_50 rfl ?_ ?_
          · intro h8
            refine q_iload_n (pc' := 62) ja_C_settle_61 rfl rfl ?_
            refine q_iconst (pc' := 63) ja_C_settle_62 rfl 1 (by decide) ?_
            refine q_ic_ne (pc' := 66) ja_C_settle_63 rfl (fun h => absurd (h7) h) (fun _ => ?_)
            refine q_aload_n (pc' := 67) ja_C_settle_66 rfl rfl ?_
            refine q_iload (pc' := 69) ja_C_settle_67 rfl rfl ?_
            refine q_iald (pc' := 70) (v := .int (s x0 x4.toNatClampNeg)) ja_C_settle_69 rfl (f_a_c hx0) (l := Lx0) (f_a_k hx0) (k5 h2 h4 h5 h7 h8) (f_i (f_a_k hx0) rfl) ?_
            refine q_iload_n (pc' := 71) ja_C_settle_70 rfl rfl ?_
            refine q_ic_le (pc' := 74) ja_C_settle_71 rfl ?_ ?_
            · intro h9
              refine q_iinc (pc' := 85) (ls' := [some (.ref x0), some (.int x1), some (.int x2), some (.int x3), some (.int (x4 + 1))]) ja_C_settle_82 rfl rfl (x4 + 1) rfl ⟨Nat.le_of_ble_eq_true rfl, rfl⟩ rfl ?_
              refine q_goto ja_C_settle_85 ?_
              exact (k6 h2 h4 h5 h7 h8 h9)
            · intro h10
              refine q_aload_n (pc' := 75) ja_C_settle_74 rfl rfl ?_
              refine q_iload (pc' := 77) ja_C_settle_75 rfl rfl ?_
              refine q_dup2 (pc' := 78) ja_C_settle_77 rfl ⟨rfl, rfl⟩ ?_
              refine q_iald (pc' := 79) (v := .int (s x0 x4.toNatClampNeg)) ja_C_settle_78 rfl (f_a_c hx0) (l := Lx0) (f_a_k hx0) (k7 h2 h4 h5 h7 h8 h10) (f_i (f_a_k hx0) rfl) ?_
              refine q_iconst (pc' := 80) ja_C_settle_79 rfl 1 (by decide) ?_
              refine q_isub (pc' := 81) ja_C_settle_80 rfl ?_
              refine q_iast (pc' := 82) ja_C_settle_81 rfl (f_a_c hx0) (l := Lx0) (f_a_k hx0) (k8 h2 h4 h5 h7 h8 h10) ?_
              intro s1 e1
              refine q_iinc (pc' := 85) (ls' := [some (.ref x0), some (.int x1), some (.int x2), some (.int x3), some (.int (x4 + 1))]) ja_C_settle_82 rfl rfl (x4 + 1) rfl ⟨Nat.le_of_ble_eq_true rfl, rfl⟩ rfl ?_
              refine q_goto ja_C_settle_85 ?_
              exact (k9 h2 h4 h5 h7 h8 h10 s1 e1)
          · intro h11
            refine q_aload_n (pc' := 54) ja_C_settle_53 rfl rfl ?_
            refine q_iload (pc' := 56) ja_C_settle_54 rfl rfl ?_
            refine q_iconst (pc' := 57) ja_C_settle_56 rfl (-1) (by decide) ?_
            refine q_iast (pc' := 58) ja_C_settle_57 rfl (f_a_c hx0) (l := Lx0) (f_a_k hx0) (k10 h2 h4 h5 h7 h11) ?_
            intro s2 e2
            refine q_goto ja_C_settle_58 ?_
            refine q_iinc (pc' := 85) (ls' := [some (.ref x0), some (.int x1), some (.int x2), some (.int x3), some (.int (x4 + 1))]) ja_C_settle_82 rfl rfl (x4 + 1) rfl ⟨Nat.le_of_ble_eq_true rfl, rfl⟩ rfl ?_
            refine q_goto ja_C_settle_85 ?_
            exact (k11 h2 h4 h5 h7 h11 s2 e2)
      · intro h12
        refine q_aload_n (pc' := 22) ja_C_settle_21 rfl rfl ?_
        refine q_iload (pc' := 24) ja_C_settle_22 rfl rfl ?_
        refine q_iald (pc' := 25) (v := .int (s x0 x4.toNatClampNeg)) ja_C_settle_24 rfl (f_a_c hx0) (l := Lx0) (f_a_k hx0) (k12 h2 h4 h12) (f_i (f_a_k hx0) rfl) ?_
        refine q_iload_n (pc' := 26) ja_C_settle_25 rfl rfl ?_
        refine q_ic_lt (pc' := 29) ja_C_settle_26 rfl ?_ ?_
        · intro h13
          refine q_iload_n (pc' := 41) ja_C_settle_40 rfl rfl ?_
          refine q_iconst (pc' := 42) ja_C_settle_41 rfl 1 (by decide) ?_
          refine q_ic_ne (pc' := 45) ja_C_settle_42 rfl ?_ ?_
          · intro h14
            refine q_iload_n (pc' := 62) ja_C_settle_61 rfl rfl ?_
            refine q_iconst (pc' := 63) ja_C_settle_62 rfl 1 (by decide) ?_
            refine q_ic_ne (pc' := 66) ja_C_settle_63 rfl (fun _ => ?_) (fun h => absurd h (h14))
            refine q_iinc (pc' := 85) (ls' := [some (.ref x0), some (.int x1), some (.int x2), some (.int x3), some (.int (x4 + 1))]) ja_C_settle_82 rfl rfl (x4 + 1) rfl ⟨Nat.le_of_ble_eq_true rfl, rfl⟩ rfl ?_
            refine q_goto ja_C_settle_85 ?_
            exact (k13 h2 h4 h12 h13 h14)
          · intro h15
            refine q_aload_n (pc' := 46) ja_C_settle_45 rfl rfl ?_
            refine q_iload (pc' := 48) ja_C_settle_46 rfl rfl ?_
            refine q_iald (pc' := 49) (v := .int (s x0 x4.toNatClampNeg)) ja_C_settle_48 rfl (f_a_c hx0) (l := Lx0) (f_a_k hx0) (k14 h2 h4 h12 h13 h15) (f_i (f_a_k hx0) rfl) ?_
            refine q_iload_n (pc' := 50) ja_C_settle_49 rfl rfl ?_
            refine q_ic_ne (pc' := 53) ja_C_settle_50 rfl ?_ ?_
            · intro h16
              refine q_iload_n (pc' := 62) ja_C_settle_61 rfl rfl ?_
              refine q_iconst (pc' := 63) ja_C_settle_62 rfl 1 (by decide) ?_
              refine q_ic_ne (pc' := 66) ja_C_settle_63 rfl (fun h => absurd (h15) h) (fun _ => ?_)
              refine q_aload_n (pc' := 67) ja_C_settle_66 rfl rfl ?_
              refine q_iload (pc' := 69) ja_C_settle_67 rfl rfl ?_
              refine q_iald (pc' := 70) (v := .int (s x0 x4.toNatClampNeg)) ja_C_settle_69 rfl (f_a_c hx0) (l := Lx0) (f_a_k hx0) (k15 h2 h4 h12 h13 h15 h16) (f_i (f_a_k hx0) rfl) ?_
              refine q_iload_n (pc' := 71) ja_C_settle_70 rfl rfl ?_
              refine q_ic_le (pc' := 74) ja_C_settle_71 rfl ?_ ?_
              · intro h17
                refine q_iinc (pc' := 85) (ls' := [some (.ref x0), some (.int x1), some (.int x2), some (.int x3), some (.int (x4 + 1))]) ja_C_settle_82 rfl rfl (x4 + 1) rfl ⟨Nat.le_of_ble_eq_true rfl, rfl⟩ rfl ?_
                refine q_goto ja_C_settle_85 ?_
                exact (k16 h2 h4 h12 h13 h15 h16 h17)
              · intro h18
                refine q_aload_n (pc' := 75) ja_C_settle_74 rfl rfl ?_
                refine q_iload (pc' := 77) ja_C_settle_75 rfl rfl ?_
                refine q_dup2 (pc' := 78) ja_C_settle_77 rfl ⟨rfl, rfl⟩ ?_
                refine q_iald (pc' := 79) (v := .int (s x0 x4.toNatClampNeg)) ja_C_settle_78 rfl (f_a_c hx0) (l := Lx0) (f_a_k hx0) (k17 h2 h4 h12 h13 h15 h16 h18) (f_i (f_a_k hx0) rfl) ?_
                refine q_iconst (pc' := 80) ja_C_settle_79 rfl 1 (by decide) ?_
                refine q_isub (pc' := 81) ja_C_settle_80 rfl ?_
                refine q_iast (pc' := 82) ja_C_settle_81 rfl (f_a_c hx0) (l := Lx0) (f_a_k hx0) (k18 h2 h4 h12 h13 h15 h16 h18) ?_
                intro s3 e3
                refine q_iinc (pc' := 85) (ls' := [some (.ref x0), some (.int x1), some (.int x2), some (.int x3), some (.int (x4 + 1))]) ja_C_settle_82 rfl rfl (x4 + 1) rfl ⟨Nat.le_of_ble_eq_true rfl, rfl⟩ rfl ?_
                refine q_goto ja_C_settle_85 ?_
                exact (k19 h2 h4 h12 h13 h15 h16 h18 s3 e3)
            · intro h19
              refine q_aload_n (pc' := 54) ja_C_settle_53 rfl rfl ?_
              refine q_iload (pc' := 56) ja_C_settle_54 rfl rfl ?_
              refine q_iconst (pc' := 57) ja_C_settle_56 rfl (-1) (by decide) ?_
              refine q_iast (pc' := 58) ja_C_settle_57 rfl (f_a_c hx0) (l := Lx0) (f_a_k hx0) (k20 h2 h4 h12 h13 h15 h19) ?_
              intro s4 e4
              refine q_goto ja_C_settle_58 ?_
              refine q_iinc (pc' := 85) (ls' := [some (.ref x0), some (.int x1), some (.int x2), some (.int x3), some (.int (x4 + 1))]) ja_C_settle_82 rfl rfl (x4 + 1) rfl ⟨Nat.le_of_ble_eq_true rfl, rfl⟩ rfl ?_
              refine q_goto ja_C_settle_85 ?_
              exact (k21 h2 h4 h12 h13 h15 h19 s4 e4)
        · intro h20
          refine q_aload_n (pc' := 30) ja_C_settle_29 rfl rfl ?_
          refine q_iload (pc' := 32) ja_C_settle_30 rfl rfl ?_
          refine q_dup2 (pc' := 33) ja_C_settle_32 rfl ⟨rfl, rfl⟩ ?_
          refine q_iald (pc' := 34) (v := .int (s x0 x4.toNatClampNeg)) ja_C_settle_33 rfl (f_a_c hx0) (l := Lx0) (f_a_k hx0) (k22 h2 h4 h12 h20) (f_i (f_a_k hx0) rfl) ?_
          refine q_iconst (pc' := 35) ja_C_settle_34 rfl 1 (by decide) ?_
          refine q_iadd (pc' := 36) ja_C_settle_35 rfl ?_
          refine q_iast (pc' := 37) ja_C_settle_36 rfl (f_a_c hx0) (l := Lx0) (f_a_k hx0) (k23 h2 h4 h12 h20) ?_
          intro s5 e5
          refine q_goto ja_C_settle_37 ?_
          refine q_iinc (pc' := 85) (ls' := [some (.ref x0), some (.int x1), some (.int x2), some (.int x3), some (.int (x4 + 1))]) ja_C_settle_82 rfl rfl (x4 + 1) rfl ⟨Nat.le_of_ble_eq_true rfl, rfl⟩ rfl ?_
          refine q_goto ja_C_settle_85 ?_
          exact (k24 h2 h4 h12 h20 s5 e5)
set_option maxRecDepth 20000 in
theorem t_C_sign {G : jv_X} {d : Nat} {B : Option Value → jg_H → Prop} {s : jg_H} (a1 : Int32) (a2 : Int32)
    (k1 : a1 < 0 → B (some (.int (-2))) s)
    (k2 : ¬ a1 < 0 → ¬ a1 < (s 0 3) → B (some (.int (-2))) s)
    (k3 : ¬ a1 < 0 → a1 < (s 0 3) → ¬ a1 < 8 → B (some (.int (-2))) s)
    (k4 : ¬ a1 < 0 → a1 < (s 0 3) → a1 < 8 → a2 < 0 → B (some (.int (-2))) s)
    (k5 : ¬ a1 < 0 → a1 < (s 0 3) → a1 < 8 → ¬ a2 < 0 → ¬ a2 < (s 0 1) → B (some (.int (-2))) s)
    (k6 : ¬ a1 < 0 → a1 < (s 0 3) → a1 < 8 → ¬ a2 < 0 → a2 < (s 0 1) → ¬ a2 < 15 → B (some (.int (-2))) s)
    (k7 : ¬ a1 < 0 → a1 < (s 0 3) → a1 < 8 → ¬ a2 < 0 → a2 < (s 0 1) → a2 < 15 → ¬ (s (33 + 3 * a1.toNatClampNeg) 0) = 0 → B (some (.int (-3))) s)
    (k8 : ¬ a1 < 0 → a1 < (s 0 3) → a1 < 8 → ¬ a2 < 0 → a2 < (s 0 1) → a2 < 15 → (s (33 + 3 * a1.toNatClampNeg) 0) = 0 → (((s (33 + 3 * a1.toNatClampNeg) 1) >>> (a2 &&& 31)) &&& 1) = 0 → ∀ s1 : jg_H, s1 = jg_up s (33 + 3 * a1.toNatClampNeg) 1 ((s (33 + 3 * a1.toNatClampNeg) 1) ||| (1 <<< (a2 &&& 31))) → q_P G (d + 2) 60 [.int (s1 (33 + 3 * a1.toNatClampNeg) 1)] s1 (fun v t => q_W G (d + 2) jm_C_sign B 66 [some (.ref 0), some (.int a1), some (.int a2), some (.ref (33 + 3 * a1.toNatClampNeg)), none] (v.toList ++ []) t))
    (k9 : ¬ a1 < 0 → a1 < (s 0 3) → a1 < 8 → ¬ a2 < 0 → a2 < (s 0 1) → a2 < 15 → (s (33 + 3 * a1.toNatClampNeg) 0) = 0 → ¬ (((s (33 + 3 * a1.toNatClampNeg) 1) >>> (a2 &&& 31)) &&& 1) = 0 → B (some (.int (-3))) s) :
    q_P G (d + 3) 67 [.ref 0, .int a1, .int a2] s B := by
  refine q_in (M := jm_C_sign) rfl (Nat.le_of_ble_eq_true rfl) (ls := [some (.ref 0), some (.int a1), some (.int a2), none, none]) rfl ?_
  refine q_aload_n (pc' := 1) ja_C_sign_0 rfl rfl ?_
  refine q_iload_n (pc' := 2) ja_C_sign_1 rfl rfl ?_
  refine q_virt (pc' := 5) (c := 0) (as := [.int a1]) (r := []) ja_C_sign_2 rfl rfl rfl (by decide) ⟨rfl, by decide⟩ ?_
  refine q_in (M := jm_C_isBill) rfl (Nat.le_of_ble_eq_true rfl) (ls := [some (.ref 0), some (.int a1)]) rfl ?_
  refine q_iload_n (pc' := 1) ja_C_isBill_0 rfl rfl ?_
  refine q_if_lt (pc' := 4) ja_C_isBill_1 rfl ?_ ?_
  · intro h1
    refine q_iconst (pc' := 26) ja_C_isBill_25 rfl 0 (by decide) ?_
    refine q_iret ja_C_isBill_26 rfl (by decide) ?_
    show q_W _ _ _ _ 5 [some (.ref 0), some (.int a1), some (.int a2), none, none] [.int 0] s
    refine q_if_eq (pc' := 8) ja_C_sign_5 rfl (fun _ => ?_) (fun h => absurd ((by decide : (0 : Int32) = 0)) h)
    refine q_bipush (pc' := 18) ja_C_sign_16 rfl (-2) (by decide) ?_
    exact q_iret ja_C_sign_18 rfl rfl (k1 h1)
  · intro h2
    refine q_iload_n (pc' := 5) ja_C_isBill_4 rfl rfl ?_
    refine q_aload_n (pc' := 6) ja_C_isBill_5 rfl rfl ?_
    refine q_getf (pc' := 9) (v := .int (s 0 3)) ja_C_isBill_6 rfl (by decide) ⟨rfl, by decide⟩ rfl ?_
    refine q_ic_ge (pc' := 12) ja_C_isBill_9 rfl ?_ ?_
    · intro h3
      refine q_iconst (pc' := 26) ja_C_isBill_25 rfl 0 (by decide) ?_
      refine q_iret ja_C_isBill_26 rfl (by decide) ?_
      show q_W _ _ _ _ 5 [some (.ref 0), some (.int a1), some (.int a2), none, none] [.int 0] s
      refine q_if_eq (pc' := 8) ja_C_sign_5 rfl (fun _ => ?_) (fun h => absurd ((by decide : (0 : Int32) = 0)) h)
      refine q_bipush (pc' := 18) ja_C_sign_16 rfl (-2) (by decide) ?_
      exact q_iret ja_C_sign_18 rfl rfl (k2 h2 h3)
    · intro h4
      refine q_iload_n (pc' := 13) ja_C_isBill_12 rfl rfl ?_
      refine q_aload_n (pc' := 14) ja_C_isBill_13 rfl rfl ?_
      refine q_getf (pc' := 17) (v := .ref 32) ja_C_isBill_14 rfl (by decide) ⟨rfl, by decide⟩ rfl ?_
      refine q_alen (pc' := 18) ja_C_isBill_17 rfl (by decide) (kd := 17) (l := 8) rfl (by decide) (v := 8) (by decide) ?_
      refine q_ic_ge (pc' := 21) ja_C_isBill_18 rfl ?_ ?_
      · intro h5
        refine q_iconst (pc' := 26) ja_C_isBill_25 rfl 0 (by decide) ?_
        refine q_iret ja_C_isBill_26 rfl (by decide) ?_
        show q_W _ _ _ _ 5 [some (.ref 0), some (.int a1), some (.int a2), none, none] [.int 0] s
        refine q_if_eq (pc' := 8) ja_C_sign_5 rfl (fun _ => ?_) (fun h => absurd ((by decide : (0 : Int32) = 0)) h)
        refine q_bipush (pc' := 18) ja_C_sign_16 rfl (-2) (by decide) ?_
        exact q_iret ja_C_sign_18 rfl rfl (k3 h2 h4 h5)
      · intro h6
        refine q_iconst (pc' := 22) ja_C_isBill_21 rfl 1 (by decide) ?_
        refine q_goto ja_C_isBill_22 ?_
        refine q_iret ja_C_isBill_26 rfl (by decide) ?_
        show q_W _ _ _ _ 5 [some (.ref 0), some (.int a1), some (.int a2), none, none] [.int 1] s
        refine q_if_eq (pc' := 8) ja_C_sign_5 rfl (fun h => absurd h ((by decide : ¬ (1 : Int32) = 0))) (fun _ => ?_)
        refine q_aload_n (pc' := 9) ja_C_sign_8 rfl rfl ?_
        refine q_iload_n (pc' := 10) ja_C_sign_9 rfl rfl ?_
        refine q_virt (pc' := 13) (c := 0) (as := [.int a2]) (r := []) ja_C_sign_10 rfl rfl rfl (by decide) ⟨rfl, by decide⟩ ?_
        refine q_in (M := jm_C_isMember) rfl (Nat.le_of_ble_eq_true rfl) (ls := [some (.ref 0), some (.int a2)]) rfl ?_
        refine q_iload_n (pc' := 1) ja_C_isMember_0 rfl rfl ?_
        refine q_if_lt (pc' := 4) ja_C_isMember_1 rfl ?_ ?_
        · intro h7
          refine q_iconst (pc' := 26) ja_C_isMember_25 rfl 0 (by decide) ?_
          refine q_iret ja_C_isMember_26 rfl (by decide) ?_
          show q_W _ _ _ _ 13 [some (.ref 0), some (.int a1), some (.int a2), none, none] [.int 0] s
          refine q_if_ne (pc' := 16) ja_C_sign_13 rfl (fun h => absurd ((by decide : (0 : Int32) = 0)) h) (fun _ => ?_)
          refine q_bipush (pc' := 18) ja_C_sign_16 rfl (-2) (by decide) ?_
          exact q_iret ja_C_sign_18 rfl rfl (k4 h2 h4 h6 h7)
        · intro h8
          refine q_iload_n (pc' := 5) ja_C_isMember_4 rfl rfl ?_
          refine q_aload_n (pc' := 6) ja_C_isMember_5 rfl rfl ?_
          refine q_getf (pc' := 9) (v := .int (s 0 1)) ja_C_isMember_6 rfl (by decide) ⟨rfl, by decide⟩ rfl ?_
          refine q_ic_ge (pc' := 12) ja_C_isMember_9 rfl ?_ ?_
          · intro h9
            refine q_iconst (pc' := 26) ja_C_isMember_25 rfl 0 (by decide) ?_
            refine q_iret ja_C_isMember_26 rfl (by decide) ?_
            show q_W _ _ _ _ 13 [some (.ref 0), some (.int a1), some (.int a2), none, none] [.int 0] s
            refine q_if_ne (pc' := 16) ja_C_sign_13 rfl (fun h => absurd ((by decide : (0 : Int32) = 0)) h) (fun _ => ?_)
            refine q_bipush (pc' := 18) ja_C_sign_16 rfl (-2) (by decide) ?_
            exact q_iret ja_C_sign_18 rfl rfl (k5 h2 h4 h6 h8 h9)
          · intro h10
            refine q_iload_n (pc' := 13) ja_C_isMember_12 rfl rfl ?_
            refine q_aload_n (pc' := 14) ja_C_isMember_13 rfl rfl ?_
            refine q_getf (pc' := 17) (v := .ref 1) ja_C_isMember_14 rfl (by decide) ⟨rfl, by decide⟩ rfl ?_
            refine q_alen (pc' := 18) ja_C_isMember_17 rfl (by decide) (kd := 16) (l := 15) rfl (by decide) (v := 15) (by decide) ?_
            refine q_ic_ge (pc' := 21) ja_C_isMember_18 rfl ?_ ?_
            · intro h11
              refine q_iconst (pc' := 26) ja_C_isMember_25 rfl 0 (by decide) ?_
              refine q_iret ja_C_isMember_26 rfl (by decide) ?_
              show q_W _ _ _ _ 13 [some (.ref 0), some (.int a1), some (.int a2), none, none] [.int 0] s
              refine q_if_ne (pc' := 16) ja_C_sign_13 rfl (fun h => absurd ((by decide : (0 : Int32) = 0)) h) (fun _ => ?_)
              refine q_bipush (pc' := 18) ja_C_sign_16 rfl (-2) (by decide) ?_
              exact q_iret ja_C_sign_18 rfl rfl (k6 h2 h4 h6 h8 h10 h11)
            · intro h12
              refine q_iconst (pc' := 22) ja_C_isMember_21 rfl 1 (by decide) ?_
              refine q_goto ja_C_isMember_22 ?_
              refine q_iret ja_C_isMember_26 rfl (by decide) ?_
              show q_W _ _ _ _ 13 [some (.ref 0), some (.int a1), some (.int a2), none, none] [.int 1] s
              refine q_if_ne (pc' := 16) ja_C_sign_13 rfl (fun _ => ?_) (fun h => absurd h ((by decide : ¬ (1 : Int32) = 0)))
              refine q_aload_n (pc' := 20) ja_C_sign_19 rfl rfl ?_
              refine q_getf (pc' := 23) (v := .ref 32) ja_C_sign_20 rfl (by decide) ⟨rfl, by decide⟩ rfl ?_
              refine q_iload_n (pc' := 24) ja_C_sign_23 rfl rfl ?_
              refine q_aald (pc' := 25) (v := .ref (33 + 3 * a1.toNatClampNeg)) ja_C_sign_24 rfl (by decide) (kd := 17) (l := 8) rfl (by decide) (q_inr (l := 8) (by decide) h2 h6) (f_A32 (f_in (q_inr (l := 8) (by decide) h2 h6))) ?_
              refine q_astore_n (pc' := 26) (ls' := [some (.ref 0), some (.int a1), some (.int a2), some (.ref (33 + 3 * a1.toNatClampNeg)), none]) ja_C_sign_25 rfl ⟨Nat.le_of_ble_eq_true rfl, rfl⟩ rfl ?_
              refine q_aload_n (pc' := 27) ja_C_sign_26 rfl rfl ?_
              refine q_getf (pc' := 30) (v := .int (s (33 + 3 * a1.toNatClampNeg) 0)) ja_C_sign_27 rfl (f_1_c (f_m32 (f_in (q_inr (l := 8) (by decide) h2 h6)))) ⟨by rw [f_1_k (f_m32 (f_in (q_inr (l := 8) (by decide) h2 h6)))], by decide⟩ (f_i (f_1_k (f_m32 (f_in (q_inr (l := 8) (by decide) h2 h6)))) rfl) ?_
              refine q_if_ne (pc' := 33) ja_C_sign_30 rfl ?_ ?_
              · intro h13
                refine q_bipush (pc' := 46) ja_C_sign_44 rfl (-3) (by decide) ?_
                exact q_iret ja_C_sign_46 rfl rfl (k7 h2 h4 h6 h8 h10 h12 h13)
              · intro h14
                refine q_aload_n (pc' := 34) ja_C_sign_33 rfl rfl ?_
                refine q_getf (pc' := 37) (v := .int (s (33 + 3 * a1.toNatClampNeg) 1)) ja_C_sign_34 rfl (f_1_c (f_m32 (f_in (q_inr (l := 8) (by decide) h2 h6)))) ⟨by rw [f_1_k (f_m32 (f_in (q_inr (l := 8) (by decide) h2 h6)))], by decide⟩ (f_i (f_1_k (f_m32 (f_in (q_inr (l := 8) (by decide) h2 h6)))) rfl) ?_
                refine q_iload_n (pc' := 38) ja_C_sign_37 rfl rfl ?_
                refine q_ishr (pc' := 39) ja_C_sign_38 rfl ?_
                refine q_iconst (pc' := 40) ja_C_sign_39 rfl 1 (by decide) ?_
                refine q_iand (pc' := 41) ja_C_sign_40 rfl ?_
                refine q_if_eq (pc' := 44) ja_C_sign_41 rfl ?_ ?_
                · intro h15
                  refine q_aload_n (pc' := 48) ja_C_sign_47 rfl rfl ?_
                  refine q_dup (pc' := 49) ja_C_sign_48 rfl rfl ?_
                  refine q_getf (pc' := 52) (v := .int (s (33 + 3 * a1.toNatClampNeg) 1)) ja_C_sign_49 rfl (f_1_c (f_m32 (f_in (q_inr (l := 8) (by decide) h2 h6)))) ⟨by rw [f_1_k (f_m32 (f_in (q_inr (l := 8) (by decide) h2 h6)))], by decide⟩ (f_i (f_1_k (f_m32 (f_in (q_inr (l := 8) (by decide) h2 h6)))) rfl) ?_
                  refine q_iconst (pc' := 53) ja_C_sign_52 rfl 1 (by decide) ?_
                  refine q_iload_n (pc' := 54) ja_C_sign_53 rfl rfl ?_
                  refine q_ishl (pc' := 55) ja_C_sign_54 rfl ?_
                  refine q_ior (pc' := 56) ja_C_sign_55 rfl ?_
                  refine q_putf (pc' := 59) ja_C_sign_56 rfl (f_1_c (f_m32 (f_in (q_inr (l := 8) (by decide) h2 h6)))) (by rw [f_1_k (f_m32 (f_in (q_inr (l := 8) (by decide) h2 h6)))]) rfl (by rw [f_1_k (f_m32 (f_in (q_inr (l := 8) (by decide) h2 h6)))]; rfl) ?_
                  intro s1 e1
                  refine q_aload_n (pc' := 60) ja_C_sign_59 rfl rfl ?_
                  refine q_getf (pc' := 63) (v := .int (s1 (33 + 3 * a1.toNatClampNeg) 1)) ja_C_sign_60 rfl (f_1_c (f_m32 (f_in (q_inr (l := 8) (by decide) h2 h6)))) ⟨by rw [f_1_k (f_m32 (f_in (q_inr (l := 8) (by decide) h2 h6)))], by decide⟩ (f_i (f_1_k (f_m32 (f_in (q_inr (l := 8) (by decide) h2 h6)))) rfl) ?_
                  refine q_stat (pc' := 66) (as := [.int (s1 (33 + 3 * a1.toNatClampNeg) 1)]) (r := []) ja_C_sign_63 rfl (by decide) rfl rfl ?_
                  exact (k8 h2 h4 h6 h8 h10 h12 h14 h15 s1 e1)
                · intro h16
                  refine q_bipush (pc' := 46) ja_C_sign_44 rfl (-3) (by decide) ?_
                  exact q_iret ja_C_sign_46 rfl rfl (k9 h2 h4 h6 h8 h10 h12 h14 h16)
set_option maxRecDepth 20000 in
theorem t_C_sign_66 {G : jv_X} {d : Nat} {B : Option Value → jg_H → Prop} {s : jg_H} (x1 : Int32) (x2 : Int32) {x3 : Nat} (hx3 : f_1 x3) (y0 : Int32)
    (k1 : (y0 + y0) ≤ (s 0 1) → B (some (.int y0)) s)
    (k2 : ¬ (y0 + y0) ≤ (s 0 1) → x1 < 0 → B (some (.int y0)) s)
    (k3 : ¬ (y0 + y0) ≤ (s 0 1) → ¬ x1 < 0 → ¬ x1 < (s 0 3) → B (some (.int y0)) s)
    (k4 : ¬ (y0 + y0) ≤ (s 0 1) → ¬ x1 < 0 → x1 < (s 0 3) → ¬ x1 < 8 → B (some (.int y0)) s)
    (k5 : ¬ (y0 + y0) ≤ (s 0 1) → ¬ x1 < 0 → x1 < (s 0 3) → x1 < 8 → (s 0 5) < 8 → jv_in (s 0 5) 8 = true)
    (k6 : ¬ (y0 + y0) ≤ (s 0 1) → ¬ x1 < 0 → x1 < (s 0 3) → x1 < 8 → (s 0 5) < 8 → ∀ s1 : jg_H, s1 = jg_up s 57 (s 0 5).toNatClampNeg x1 → ∀ s2 : jg_H, s2 = jg_up s1 0 5 ((s1 0 5) + 1) → ∀ s3 : jg_H, s3 = jg_up s2 (33 + 3 * x1.toNatClampNeg) 0 1 → B (some (.int y0)) s3)
    (k7 : ¬ (y0 + y0) ≤ (s 0 1) → ¬ x1 < 0 → x1 < (s 0 3) → x1 < 8 → ¬ (s 0 5) < 8 → B (some (.int y0)) s) :
    q_W G (d + 2) jm_C_sign B 66 [some (.ref 0), some (.int x1), some (.int x2), some (.ref x3), none] [.int y0] s := by
  refine q_istore (pc' := 68) (ls' := [some (.ref 0), some (.int x1), some (.int x2), some (.ref x3), some (.int y0)]) ja_C_sign_66 rfl ⟨Nat.le_of_ble_eq_true rfl, rfl⟩ rfl ?_
  refine q_iload (pc' := 70) ja_C_sign_68 rfl rfl ?_
  refine q_iload (pc' := 72) ja_C_sign_70 rfl rfl ?_
  refine q_iadd (pc' := 73) ja_C_sign_72 rfl ?_
  refine q_aload_n (pc' := 74) ja_C_sign_73 rfl rfl ?_
  refine q_getf (pc' := 77) (v := .int (s 0 1)) ja_C_sign_74 rfl (by decide) ⟨rfl, by decide⟩ rfl ?_
  refine q_ic_le (pc' := 80) ja_C_sign_77 rfl ?_ ?_
  · intro h1
    refine q_iload (pc' := 87) ja_C_sign_85 rfl rfl ?_
    exact q_iret ja_C_sign_87 rfl rfl (k1 h1)
  · intro h2
    refine q_aload_n (pc' := 81) ja_C_sign_80 rfl rfl ?_
    refine q_iload_n (pc' := 82) ja_C_sign_81 rfl rfl ?_
    refine q_virt (pc' := 85) (c := 0) (as := [.int x1]) (r := []) ja_C_sign_82 rfl rfl rfl (by decide) ⟨rfl, by decide⟩ ?_
    refine q_in (M := jm_C_putOnCalendar) rfl (Nat.le_of_ble_eq_true rfl) (ls := [some (.ref 0), some (.int x1)]) rfl ?_
    refine q_aload_n (pc' := 1) ja_C_putOnCalendar_0 rfl rfl ?_
    refine q_iload_n (pc' := 2) ja_C_putOnCalendar_1 rfl rfl ?_
    refine q_virt (pc' := 5) (c := 0) (as := [.int x1]) (r := []) ja_C_putOnCalendar_2 rfl rfl rfl (by decide) ⟨rfl, by decide⟩ ?_
    refine q_in (M := jm_C_isBill) rfl (Nat.le_of_ble_eq_true rfl) (ls := [some (.ref 0), some (.int x1)]) rfl ?_
    refine q_iload_n (pc' := 1) ja_C_isBill_0 rfl rfl ?_
    refine q_if_lt (pc' := 4) ja_C_isBill_1 rfl ?_ ?_
    · intro h3
      refine q_iconst (pc' := 26) ja_C_isBill_25 rfl 0 (by decide) ?_
      refine q_iret ja_C_isBill_26 rfl (by decide) ?_
      show q_W _ _ _ _ 5 [some (.ref 0), some (.int x1)] [.int 0] s
      refine q_if_eq (pc' := 8) ja_C_putOnCalendar_5 rfl (fun _ => ?_) (fun h => absurd ((by decide : (0 : Int32) = 0)) h)
      refine q_vret ja_C_putOnCalendar_20 rfl ?_
      show q_W _ _ _ _ 85 [some (.ref 0), some (.int x1), some (.int x2), some (.ref x3), some (.int y0)] [] s
      refine q_iload (pc' := 87) ja_C_sign_85 rfl rfl ?_
      exact q_iret ja_C_sign_87 rfl rfl (k2 h2 h3)
    · intro h4
      refine q_iload_n (pc' := 5) ja_C_isBill_4 rfl rfl ?_
      refine q_aload_n (pc' := 6) ja_C_isBill_5 rfl rfl ?_
      refine q_getf (pc' := 9) (v := .int (s 0 3)) ja_C_isBill_6 rfl (by decide) ⟨rfl, by decide⟩ rfl ?_
      refine q_ic_ge (pc' := 12) ja_C_isBill_9 rfl ?_ ?_
      · intro h5
        refine q_iconst (pc' := 26) ja_C_isBill_25 rfl 0 (by decide) ?_
        refine q_iret ja_C_isBill_26 rfl (by decide) ?_
        show q_W _ _ _ _ 5 [some (.ref 0), some (.int x1)] [.int 0] s
        refine q_if_eq (pc' := 8) ja_C_putOnCalendar_5 rfl (fun _ => ?_) (fun h => absurd ((by decide : (0 : Int32) = 0)) h)
        refine q_vret ja_C_putOnCalendar_20 rfl ?_
        show q_W _ _ _ _ 85 [some (.ref 0), some (.int x1), some (.int x2), some (.ref x3), some (.int y0)] [] s
        refine q_iload (pc' := 87) ja_C_sign_85 rfl rfl ?_
        exact q_iret ja_C_sign_87 rfl rfl (k3 h2 h4 h5)
      · intro h6
        refine q_iload_n (pc' := 13) ja_C_isBill_12 rfl rfl ?_
        refine q_aload_n (pc' := 14) ja_C_isBill_13 rfl rfl ?_
        refine q_getf (pc' := 17) (v := .ref 32) ja_C_isBill_14 rfl (by decide) ⟨rfl, by decide⟩ rfl ?_
        refine q_alen (pc' := 18) ja_C_isBill_17 rfl (by decide) (kd := 17) (l := 8) rfl (by decide) (v := 8) (by decide) ?_
        refine q_ic_ge (pc' := 21) ja_C_isBill_18 rfl ?_ ?_
        · intro h7
          refine q_iconst (pc' := 26) ja_C_isBill_25 rfl 0 (by decide) ?_
          refine q_iret ja_C_isBill_26 rfl (by decide) ?_
          show q_W _ _ _ _ 5 [some (.ref 0), some (.int x1)] [.int 0] s
          refine q_if_eq (pc' := 8) ja_C_putOnCalendar_5 rfl (fun _ => ?_) (fun h => absurd ((by decide : (0 : Int32) = 0)) h)
          refine q_vret ja_C_putOnCalendar_20 rfl ?_
          show q_W _ _ _ _ 85 [some (.ref 0), some (.int x1), some (.int x2), some (.ref x3), some (.int y0)] [] s
          refine q_iload (pc' := 87) ja_C_sign_85 rfl rfl ?_
          exact q_iret ja_C_sign_87 rfl rfl (k4 h2 h4 h6 h7)
        · intro h8
          refine q_iconst (pc' := 22) ja_C_isBill_21 rfl 1 (by decide) ?_
          refine q_goto ja_C_isBill_22 ?_
          refine q_iret ja_C_isBill_26 rfl (by decide) ?_
          show q_W _ _ _ _ 5 [some (.ref 0), some (.int x1)] [.int 1] s
          refine q_if_eq (pc' := 8) ja_C_putOnCalendar_5 rfl (fun h => absurd h ((by decide : ¬ (1 : Int32) = 0))) (fun _ => ?_)
          refine q_aload_n (pc' := 9) ja_C_putOnCalendar_8 rfl rfl ?_
          refine q_getf (pc' := 12) (v := .int (s 0 5)) ja_C_putOnCalendar_9 rfl (by decide) ⟨rfl, by decide⟩ rfl ?_
          refine q_aload_n (pc' := 13) ja_C_putOnCalendar_12 rfl rfl ?_
          refine q_getf (pc' := 16) (v := .ref 57) ja_C_putOnCalendar_13 rfl (by decide) ⟨rfl, by decide⟩ rfl ?_
          refine q_alen (pc' := 17) ja_C_putOnCalendar_16 rfl (by decide) (kd := 13) (l := 8) rfl (by decide) (v := 8) (by decide) ?_
          refine q_ic_lt (pc' := 20) ja_C_putOnCalendar_17 rfl ?_ ?_
          · intro h9
            refine q_aload_n (pc' := 22) ja_C_putOnCalendar_21 rfl rfl ?_
            refine q_getf (pc' := 25) (v := .ref 57) ja_C_putOnCalendar_22 rfl (by decide) ⟨rfl, by decide⟩ rfl ?_
            refine q_aload_n (pc' := 26) ja_C_putOnCalendar_25 rfl rfl ?_
            refine q_getf (pc' := 29) (v := .int (s 0 5)) ja_C_putOnCalendar_26 rfl (by decide) ⟨rfl, by decide⟩ rfl ?_
            refine q_iload_n (pc' := 30) ja_C_putOnCalendar_29 rfl rfl ?_
            refine q_iast (pc' := 31) ja_C_putOnCalendar_30 rfl (by decide) (l := 8) rfl (k5 h2 h4 h6 h8 h9) ?_
            intro s1 e1
            refine q_aload_n (pc' := 32) ja_C_putOnCalendar_31 rfl rfl ?_
            refine q_dup (pc' := 33) ja_C_putOnCalendar_32 rfl rfl ?_
            refine q_getf (pc' := 36) (v := .int (s1 0 5)) ja_C_putOnCalendar_33 rfl (by decide) ⟨rfl, by decide⟩ rfl ?_
            refine q_iconst (pc' := 37) ja_C_putOnCalendar_36 rfl 1 (by decide) ?_
            refine q_iadd (pc' := 38) ja_C_putOnCalendar_37 rfl ?_
            refine q_putf (pc' := 41) ja_C_putOnCalendar_38 rfl (by decide) rfl rfl rfl ?_
            intro s2 e2
            refine q_aload_n (pc' := 42) ja_C_putOnCalendar_41 rfl rfl ?_
            refine q_getf (pc' := 45) (v := .ref 32) ja_C_putOnCalendar_42 rfl (by decide) ⟨rfl, by decide⟩ rfl ?_
            refine q_iload_n (pc' := 46) ja_C_putOnCalendar_45 rfl rfl ?_
            refine q_aald (pc' := 47) (v := .ref (33 + 3 * x1.toNatClampNeg)) ja_C_putOnCalendar_46 rfl (by decide) (kd := 17) (l := 8) rfl (by decide) (q_inr (l := 8) (by decide) h4 h8) (f_A32 (f_in (q_inr (l := 8) (by decide) h4 h8))) ?_
            refine q_iconst (pc' := 48) ja_C_putOnCalendar_47 rfl 1 (by decide) ?_
            refine q_putf (pc' := 51) ja_C_putOnCalendar_48 rfl (f_1_c (f_m32 (f_in (q_inr (l := 8) (by decide) h4 h8)))) (by rw [f_1_k (f_m32 (f_in (q_inr (l := 8) (by decide) h4 h8)))]) rfl (by rw [f_1_k (f_m32 (f_in (q_inr (l := 8) (by decide) h4 h8)))]; rfl) ?_
            intro s3 e3
            refine q_vret ja_C_putOnCalendar_51 rfl ?_
            show q_W _ _ _ _ 85 [some (.ref 0), some (.int x1), some (.int x2), some (.ref x3), some (.int y0)] [] s3
            refine q_iload (pc' := 87) ja_C_sign_85 rfl rfl ?_
            exact q_iret ja_C_sign_87 rfl rfl (k6 h2 h4 h6 h8 h9 s1 e1 s2 e2 s3 e3)
          · intro h10
            refine q_vret ja_C_putOnCalendar_20 rfl ?_
            show q_W _ _ _ _ 85 [some (.ref 0), some (.int x1), some (.int x2), some (.ref x3), some (.int y0)] [] s
            refine q_iload (pc' := 87) ja_C_sign_85 rfl rfl ?_
            exact q_iret ja_C_sign_87 rfl rfl (k7 h2 h4 h6 h8 h10)
