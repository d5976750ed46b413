set_option maxRecDepth 20000 in
theorem t_Reader_readOne {G : jv_X} {d : Nat} {B : Option Value → jg_H → Prop} {s : jg_H} {T : Nat} (hT : f_9 T) 
    (k1 : (s 117 4) = 40 → q_P G (d + 1) 34 [.ref 117] s (fun v t => q_W G (d + 1) jm_Reader_readOne B 22 [some (.ref 117)] (v.toList ++ []) t))
    (k2 : ¬ (s 117 4) = 40 → ¬ (s 117 4) = 45 → ¬ (s 117 4) = 15 → (s 117 4) < 0 → ¬ (s 117 7) = (-1) → ∀ s1 : jg_H, s1 = jg_up s 117 4 17 → B none s1)
    (k3 : ¬ (s 117 4) = 40 → ¬ (s 117 4) = 45 → ¬ (s 117 4) = 15 → (s 117 4) < 0 → (s 117 7) = (-1) → ∀ s2 : jg_H, s2 = jg_up s 117 7 (s 117 2) → ∀ s3 : jg_H, s3 = jg_up s2 117 4 17 → B none s3)
    (k4 : ¬ (s 117 4) = 40 → ¬ (s 117 4) = 45 → ¬ (s 117 4) = 15 → ¬ (s 117 4) < 0 → ¬ (s 117 4) < 8 → ¬ (s 117 7) = (-1) → ∀ s4 : jg_H, s4 = jg_up s 117 4 17 → B none s4)
    (k5 : ¬ (s 117 4) = 40 → ¬ (s 117 4) = 45 → ¬ (s 117 4) = 15 → ¬ (s 117 4) < 0 → ¬ (s 117 4) < 8 → (s 117 7) = (-1) → ∀ s5 : jg_H, s5 = jg_up s 117 7 (s 117 2) → ∀ s6 : jg_H, s6 = jg_up s5 117 4 17 → B none s6)
    (k6 : ¬ (s 117 4) = 40 → ¬ (s 117 4) = 45 → ¬ (s 117 4) = 15 → ¬ (s 117 4) < 0 → (s 117 4) < 8 → s 117 8 = Int32.ofNat T)
    (k7 : ¬ (s 117 4) = 40 → ¬ (s 117 4) = 45 → ¬ (s 117 4) = 15 → ¬ (s 117 4) < 0 → (s 117 4) < 8 → (s T 1) < 0 → q_P G (d + 1) 21 [.ref 117] s (fun v t => q_W G (d + 1) jm_Reader_readOne B 85 [some (.ref 117)] (v.toList ++ []) t))
    (k8 : ¬ (s 117 4) = 40 → ¬ (s 117 4) = 45 → ¬ (s 117 4) = 15 → ¬ (s 117 4) < 0 → (s 117 4) < 8 → ¬ (s T 1) < 0 → (s T 1) < 200 → ∀ s7 : jg_H, s7 = jg_up s (T + 1) (s T 1).toNatClampNeg ((-1) - (s 117 4)) → ∀ s8 : jg_H, s8 = jg_up s7 T 1 ((s7 T 1) + 1) → q_P G (d + 1) 21 [.ref 117] s8 (fun v t => q_W G (d + 1) jm_Reader_readOne B 85 [some (.ref 117)] (v.toList ++ []) t))
    (k9 : ¬ (s 117 4) = 40 → ¬ (s 117 4) = 45 → ¬ (s 117 4) = 15 → ¬ (s 117 4) < 0 → (s 117 4) < 8 → ¬ (s T 1) < 0 → ¬ (s T 1) < 200 → q_P G (d + 1) 21 [.ref 117] s (fun v t => q_W G (d + 1) jm_Reader_readOne B 85 [some (.ref 117)] (v.toList ++ []) t))
    (k10 : ¬ (s 117 4) = 40 → ¬ (s 117 4) = 45 → (s 117 4) = 15 → s 117 8 = Int32.ofNat T)
    (k11 : ¬ (s 117 4) = 40 → ¬ (s 117 4) = 45 → (s 117 4) = 15 → (s T 1) < 0 → q_P G (d + 1) 21 [.ref 117] s (fun v t => q_W G (d + 1) jm_Reader_readOne B 49 [some (.ref 117)] (v.toList ++ []) t))
    (k12 : ¬ (s 117 4) = 40 → ¬ (s 117 4) = 45 → (s 117 4) = 15 → ¬ (s T 1) < 0 → (s T 1) < 200 → ∀ s9 : jg_H, s9 = jg_up s (T + 1) (s T 1).toNatClampNeg (s 117 5) → ∀ s10 : jg_H, s10 = jg_up s9 T 1 ((s9 T 1) + 1) → q_P G (d + 1) 21 [.ref 117] s10 (fun v t => q_W G (d + 1) jm_Reader_readOne B 49 [some (.ref 117)] (v.toList ++ []) t))
    (k13 : ¬ (s 117 4) = 40 → ¬ (s 117 4) = 45 → (s 117 4) = 15 → ¬ (s T 1) < 0 → ¬ (s T 1) < 200 → q_P G (d + 1) 21 [.ref 117] s (fun v t => q_W G (d + 1) jm_Reader_readOne B 49 [some (.ref 117)] (v.toList ++ []) t))
    (k14 : ¬ (s 117 4) = 40 → (s 117 4) = 45 → q_P G (d + 1) 34 [.ref 117] s (fun v t => q_W G (d + 1) jm_Reader_readOne B 22 [some (.ref 117)] (v.toList ++ []) t)) :
    q_P G (d + 2) 36 [.ref 117] s B := by
  refine q_in (M := jm_Reader_readOne) rfl (Nat.le_of_ble_eq_true rfl) (ls := [some (.ref 117)]) rfl ?_
  refine q_aload_n (pc' := 1) ja_Reader_readOne_0 rfl rfl ?_
  refine q_getf (pc' := 4) (v := .int (s 117 4)) ja_Reader_readOne_1 rfl (by decide) ⟨rfl, by decide⟩ rfl ?_
  refine q_bipush (pc' := 6) ja_Reader_readOne_4 rfl 40 (by decide) ?_
  refine q_ic_eq (pc' := 9) ja_Reader_readOne_6 rfl ?_ ?_
  · intro h1
    refine q_aload_n (pc' := 19) ja_Reader_readOne_18 rfl rfl ?_
    refine q_virt (pc' := 22) (c := 117) (as := []) (r := []) ja_Reader_readOne_19 rfl rfl rfl (by decide) ⟨rfl, by decide⟩ ?_
    exact (k1 h1)
  · intro h2
    refine q_aload_n (pc' := 10) ja_Reader_readOne_9 rfl rfl ?_
    refine q_getf (pc' := 13) (v := .int (s 117 4)) ja_Reader_readOne_10 rfl (by decide) ⟨rfl, by decide⟩ rfl ?_
    refine q_bipush (pc' := 15) ja_Reader_readOne_13 rfl 45 (by decide) ?_
    refine q_ic_ne (pc' := 18) ja_Reader_readOne_15 rfl ?_ ?_
    · intro h3
      refine q_aload_n (pc' := 26) ja_Reader_readOne_25 rfl rfl ?_
      refine q_getf (pc' := 29) (v := .int (s 117 4)) ja_Reader_readOne_26 rfl (by decide) ⟨rfl, by decide⟩ rfl ?_
      refine q_bipush (pc' := 31) ja_Reader_readOne_29 rfl 15 (by decide) ?_
      refine q_ic_ne (pc' := 34) ja_Reader_readOne_31 rfl ?_ ?_
      · intro h4
        refine q_aload_n (pc' := 53) ja_Reader_readOne_52 rfl rfl ?_
        refine q_getf (pc' := 56) (v := .int (s 117 4)) ja_Reader_readOne_53 rfl (by decide) ⟨rfl, by decide⟩ rfl ?_
        refine q_if_lt (pc' := 59) ja_Reader_readOne_56 rfl ?_ ?_
        · intro h5
          refine q_aload_n (pc' := 89) ja_Reader_readOne_88 rfl rfl ?_
          refine q_virt (pc' := 92) (c := 117) (as := []) (r := []) ja_Reader_readOne_89 rfl rfl rfl (by decide) ⟨rfl, by decide⟩ ?_
          refine q_in (M := jm_Reader_fail) rfl (Nat.le_of_ble_eq_true rfl) (ls := [some (.ref 117)]) rfl ?_
          refine q_aload_n (pc' := 1) ja_Reader_fail_0 rfl rfl ?_
          refine q_getf (pc' := 4) (v := .int (s 117 7)) ja_Reader_fail_1 rfl (by decide) ⟨rfl, by decide⟩ rfl ?_
          refine q_iconst (pc' := 5) ja_Reader_fail_4 rfl (-1) (by decide) ?_
          refine q_ic_ne (pc' := 8) ja_Reader_fail_5 rfl ?_ ?_
          · intro h6
            refine q_aload_n (pc' := 17) ja_Reader_fail_16 rfl rfl ?_
            refine q_bipush (pc' := 19) ja_Reader_fail_17 rfl 17 (by decide) ?_
            refine q_putf (pc' := 22) ja_Reader_fail_19 rfl (by decide) rfl rfl rfl ?_
            intro s1 e1
            refine q_vret ja_Reader_fail_22 rfl ?_
            show q_W _ _ _ _ 92 [some (.ref 117)] [] s1
            exact q_vret ja_Reader_readOne_92 rfl (k2 h2 h3 h4 h5 h6 s1 e1)
          · intro h7
            refine q_aload_n (pc' := 9) ja_Reader_fail_8 rfl rfl ?_
            refine q_aload_n (pc' := 10) ja_Reader_fail_9 rfl rfl ?_
            refine q_getf (pc' := 13) (v := .int (s 117 2)) ja_Reader_fail_10 rfl (by decide) ⟨rfl, by decide⟩ rfl ?_
            refine q_putf (pc' := 16) ja_Reader_fail_13 rfl (by decide) rfl rfl rfl ?_
            intro s2 e2
            refine q_aload_n (pc' := 17) ja_Reader_fail_16 rfl rfl ?_
            refine q_bipush (pc' := 19) ja_Reader_fail_17 rfl 17 (by decide) ?_
            refine q_putf (pc' := 22) ja_Reader_fail_19 rfl (by decide) rfl rfl rfl ?_
            intro s3 e3
            refine q_vret ja_Reader_fail_22 rfl ?_
            show q_W _ _ _ _ 92 [some (.ref 117)] [] s3
            exact q_vret ja_Reader_readOne_92 rfl (k3 h2 h3 h4 h5 h7 s2 e2 s3 e3)
        · intro h8
          refine q_aload_n (pc' := 60) ja_Reader_readOne_59 rfl rfl ?_
          refine q_getf (pc' := 63) (v := .int (s 117 4)) ja_Reader_readOne_60 rfl (by decide) ⟨rfl, by decide⟩ rfl ?_
          refine q_bipush (pc' := 65) ja_Reader_readOne_63 rfl 8 (by decide) ?_
          refine q_ic_ge (pc' := 68) ja_Reader_readOne_65 rfl ?_ ?_
          · intro h9
            refine q_aload_n (pc' := 89) ja_Reader_readOne_88 rfl rfl ?_
            refine q_virt (pc' := 92) (c := 117) (as := []) (r := []) ja_Reader_readOne_89 rfl rfl rfl (by decide) ⟨rfl, by decide⟩ ?_
            refine q_in (M := jm_Reader_fail) rfl (Nat.le_of_ble_eq_true rfl) (ls := [some (.ref 117)]) rfl ?_
            refine q_aload_n (pc' := 1) ja_Reader_fail_0 rfl rfl ?_
            refine q_getf (pc' := 4) (v := .int (s 117 7)) ja_Reader_fail_1 rfl (by decide) ⟨rfl, by decide⟩ rfl ?_
            refine q_iconst (pc' := 5) ja_Reader_fail_4 rfl (-1) (by decide) ?_
            refine q_ic_ne (pc' := 8) ja_Reader_fail_5 rfl ?_ ?_
            · intro h10
              refine q_aload_n (pc' := 17) ja_Reader_fail_16 rfl rfl ?_
              refine q_bipush (pc' := 19) ja_Reader_fail_17 rfl 17 (by decide) ?_
              refine q_putf (pc' := 22) ja_Reader_fail_19 rfl (by decide) rfl rfl rfl ?_
              intro s4 e4
              refine q_vret ja_Reader_fail_22 rfl ?_
              show q_W _ _ _ _ 92 [some (.ref 117)] [] s4
              exact q_vret ja_Reader_readOne_92 rfl (k4 h2 h3 h4 h8 h9 h10 s4 e4)
            · intro h11
              refine q_aload_n (pc' := 9) ja_Reader_fail_8 rfl rfl ?_
              refine q_aload_n (pc' := 10) ja_Reader_fail_9 rfl rfl ?_
              refine q_getf (pc' := 13) (v := .int (s 117 2)) ja_Reader_fail_10 rfl (by decide) ⟨rfl, by decide⟩ rfl ?_
              refine q_putf (pc' := 16) ja_Reader_fail_13 rfl (by decide) rfl rfl rfl ?_
              intro s5 e5
              refine q_aload_n (pc' := 17) ja_Reader_fail_16 rfl rfl ?_
              refine q_bipush (pc' := 19) ja_Reader_fail_17 rfl 17 (by decide) ?_
              refine q_putf (pc' := 22) ja_Reader_fail_19 rfl (by decide) rfl rfl rfl ?_
              intro s6 e6
              refine q_vret ja_Reader_fail_22 rfl ?_
              show q_W _ _ _ _ 92 [some (.ref 117)] [] s6
              exact q_vret ja_Reader_readOne_92 rfl (k5 h2 h3 h4 h8 h9 h11 s5 e5 s6 e6)
          · intro h12
            refine q_aload_n (pc' := 69) ja_Reader_readOne_68 rfl rfl ?_
            refine q_getf (pc' := 72) (v := .ref T) ja_Reader_readOne_69 rfl (by decide) ⟨rfl, by decide⟩ (f_into hT (k6 h2 h3 h4 h8 h12)) ?_
            refine q_iconst (pc' := 73) ja_Reader_readOne_72 rfl (-1) (by decide) ?_
            refine q_aload_n (pc' := 74) ja_Reader_readOne_73 rfl rfl ?_
            refine q_getf (pc' := 77) (v := .int (s 117 4)) ja_Reader_readOne_74 rfl (by decide) ⟨rfl, by decide⟩ rfl ?_
            refine q_isub (pc' := 78) ja_Reader_readOne_77 rfl ?_
            refine q_virt (pc' := 81) (c := T) (as := [.int ((-1) - (s 117 4))]) (r := []) ja_Reader_readOne_78 rfl rfl rfl (f_9_c hT) ⟨by rw [f_9_k hT], by decide⟩ ?_
            refine q_in (M := jm_Text_add) rfl (Nat.le_of_ble_eq_true rfl) (ls := [some (.ref T), some (.int ((-1) - (s 117 4)))]) rfl ?_
            refine q_aload_n (pc' := 1) ja_Text_add_0 rfl rfl ?_
            refine q_getf (pc' := 4) (v := .int (s T 1)) ja_Text_add_1 rfl (f_9_c hT) ⟨by rw [f_9_k hT], by decide⟩ (f_i (f_9_k hT) rfl) ?_
            refine q_if_lt (pc' := 7) ja_Text_add_4 rfl ?_ ?_
            · intro h13
              refine q_vret ja_Text_add_19 rfl ?_
              show q_W _ _ _ _ 81 [some (.ref 117)] [] s
              refine q_aload_n (pc' := 82) ja_Reader_readOne_81 rfl rfl ?_
              refine q_virt (pc' := 85) (c := 117) (as := []) (r := []) ja_Reader_readOne_82 rfl rfl rfl (by decide) ⟨rfl, by decide⟩ ?_
              exact (k7 h2 h3 h4 h8 h12 h13)
            · intro h14
              refine q_aload_n (pc' := 8) ja_Text_add_7 rfl rfl ?_
              refine q_getf (pc' := 11) (v := .int (s T 1)) ja_Text_add_8 rfl (f_9_c hT) ⟨by rw [f_9_k hT], by decide⟩ (f_i (f_9_k hT) rfl) ?_
              refine q_aload_n (pc' := 12) ja_Text_add_11 rfl rfl ?_
              refine q_getf (pc' := 15) (v := .ref (T + 1)) ja_Text_add_12 rfl (f_9_c hT) ⟨by rw [f_9_k hT], by decide⟩ (f_9_g0 hT) ?_
              refine q_alen (pc' := 16) ja_Text_add_15 rfl (f_a_c (f_9_s0 hT)) (kd := 13) (l := 200) (f_a_k (f_9_s0 hT)) (by decide) (v := 200) (by decide) ?_
              refine q_ic_lt (pc' := 19) ja_Text_add_16 rfl ?_ ?_
              · intro h15
                refine q_aload_n (pc' := 21) ja_Text_add_20 rfl rfl ?_
                refine q_getf (pc' := 24) (v := .ref (T + 1)) ja_Text_add_21 rfl (f_9_c hT) ⟨by rw [f_9_k hT], by decide⟩ (f_9_g0 hT) ?_
                refine q_aload_n (pc' := 25) ja_Text_add_24 rfl rfl ?_
                refine q_getf (pc' := 28) (v := .int (s T 1)) ja_Text_add_25 rfl (f_9_c hT) ⟨by rw [f_9_k hT], by decide⟩ (f_i (f_9_k hT) rfl) ?_
                refine q_iload_n (pc' := 29) ja_Text_add_28 rfl rfl ?_
                refine q_iast (pc' := 30) ja_Text_add_29 rfl (f_a_c (f_9_s0 hT)) (l := 200) (f_a_k (f_9_s0 hT)) (q_inr (l := 200) (by decide) h14 h15) ?_
                intro s7 e7
                refine q_aload_n (pc' := 31) ja_Text_add_30 rfl rfl ?_
                refine q_dup (pc' := 32) ja_Text_add_31 rfl rfl ?_
                refine q_getf (pc' := 35) (v := .int (s7 T 1)) ja_Text_add_32 rfl (f_9_c hT) ⟨by rw [f_9_k hT], by decide⟩ (f_i (f_9_k hT) rfl) ?_
                refine q_iconst (pc' := 36) ja_Text_add_35 rfl 1 (by decide) ?_
                refine q_iadd (pc' := 37) ja_Text_add_36 rfl ?_
                refine q_putf (pc' := 40) ja_Text_add_37 rfl (f_9_c hT) (by rw [f_9_k hT]) rfl (by rw [f_9_k hT]; rfl) ?_
                intro s8 e8
                refine q_vret ja_Text_add_40 rfl ?_
                show q_W _ _ _ _ 81 [some (.ref 117)] [] s8
                refine q_aload_n (pc' := 82) ja_Reader_readOne_81 rfl rfl ?_
                refine q_virt (pc' := 85) (c := 117) (as := []) (r := []) ja_Reader_readOne_82 rfl rfl rfl (by decide) ⟨rfl, by decide⟩ ?_
                exact (k8 h2 h3 h4 h8 h12 h14 h15 s7 e7 s8 e8)
              · intro h16
                refine q_vret ja_Text_add_19 rfl ?_
                show q_W _ _ _ _ 81 [some (.ref 117)] [] s
                refine q_aload_n (pc' := 82) ja_Reader_readOne_81 rfl rfl ?_
                refine q_virt (pc' := 85) (c := 117) (as := []) (r := []) ja_Reader_readOne_82 rfl rfl rfl (by decide) ⟨rfl, by decide⟩ ?_
                exact (k9 h2 h3 h4 h8 h12 h14 h16)
      · intro h17
        refine q_aload_n (pc' := 35) ja_Reader_readOne_34 rfl rfl ?_
        refine q_getf (pc' := 38) (v := .ref T) ja_Reader_readOne_35 rfl (by decide) ⟨rfl, by decide⟩ (f_into hT (k10 h2 h3 h17)) ?_
        refine q_aload_n (pc' := 39) ja_Reader_readOne_38 rfl rfl ?_
        refine q_getf (pc' := 42) (v := .int (s 117 5)) ja_Reader_readOne_39 rfl (by decide) ⟨rfl, by decide⟩ rfl ?_
        refine q_virt (pc' := 45) (c := T) (as := [.int (s 117 5)]) (r := []) ja_Reader_readOne_42 rfl rfl rfl (f_9_c hT) ⟨by rw [f_9_k hT], by decide⟩ ?_
        refine q_in (M := jm_Text_add) rfl (Nat.le_of_ble_eq_true rfl) (ls := [some (.ref T), some (.int (s 117 5))]) rfl ?_
        refine q_aload_n (pc' := 1) ja_Text_add_0 rfl rfl ?_
        refine q_getf (pc' := 4) (v := .int (s T 1)) ja_Text_add_1 rfl (f_9_c hT) ⟨by rw [f_9_k hT], by decide⟩ (f_i (f_9_k hT) rfl) ?_
        refine q_if_lt (pc' := 7) ja_Text_add_4 rfl ?_ ?_
        · intro h18
          refine q_vret ja_Text_add_19 rfl ?_
          show q_W _ _ _ _ 45 [some (.ref 117)] [] s
          refine q_aload_n (pc' := 46) ja_Reader_readOne_45 rfl rfl ?_
          refine q_virt (pc' := 49) (c := 117) (as := []) (r := []) ja_Reader_readOne_46 rfl rfl rfl (by decide) ⟨rfl, by decide⟩ ?_
          exact (k11 h2 h3 h17 h18)
        · intro h19
          refine q_aload_n (pc' := 8) ja_Text_add_7 rfl rfl ?_
          refine q_getf (pc' := 11) (v := .int (s T 1)) ja_Text_add_8 rfl (f_9_c hT) ⟨by rw [f_9_k hT], by decide⟩ (f_i (f_9_k hT) rfl) ?_
          refine q_aload_n (pc' := 12) ja_Text_add_11 rfl rfl ?_
          refine q_getf (pc' := 15) (v := .ref (T + 1)) ja_Text_add_12 rfl (f_9_c hT) ⟨by rw [f_9_k hT], by decide⟩ (f_9_g0 hT) ?_
          refine q_alen (pc' := 16) ja_Text_add_15 rfl (f_a_c (f_9_s0 hT)) (kd := 13) (l := 200) (f_a_k (f_9_s0 hT)) (by decide) (v := 200) (by decide) ?_
          refine q_ic_lt (pc' := 19) ja_Text_add_16 rfl ?_ ?_
          · intro h20
            refine q_aload_n (pc' := 21) ja_Text_add_20 rfl rfl ?_
            refine q_getf (pc' := 24) (v := .ref (T + 1)) ja_Text_add_21 rfl (f_9_c hT) ⟨by rw [f_9_k hT], by decide⟩ (f_9_g0 hT) ?_
            refine q_aload_n (pc' := 25) ja_Text_add_24 rfl rfl ?_
            refine q_getf (pc' := 28) (v := .int (s T 1)) ja_Text_add_25 rfl (f_9_c hT) ⟨by rw [f_9_k hT], by decide⟩ (f_i (f_9_k hT) rfl) ?_
            refine q_iload_n (pc' := 29) ja_Text_add_28 rfl rfl ?_
            refine q_iast (pc' := 30) ja_Text_add_29 rfl (f_a_c (f_9_s0 hT)) (l := 200) (f_a_k (f_9_s0 hT)) (q_inr (l := 200) (by decide) h19 h20) ?_
            intro s9 e9
            refine q_aload_n (pc' := 31) ja_Text_add_30 rfl rfl ?_
            refine q_dup (pc' := 32) ja_Text_add_31 rfl rfl ?_
            refine q_getf (pc' := 35) (v := .int (s9 T 1)) ja_Text_add_32 rfl (f_9_c hT) ⟨by rw [f_9_k hT], by decide⟩ (f_i (f_9_k hT) rfl) ?_
            refine q_iconst (pc' := 36) ja_Text_add_35 rfl 1 (by decide) ?_
            refine q_iadd (pc' := 37) ja_Text_add_36 rfl ?_
            refine q_putf (pc' := 40) ja_Text_add_37 rfl (f_9_c hT) (by rw [f_9_k hT]) rfl (by rw [f_9_k hT]; rfl) ?_
            intro s10 e10
            refine q_vret ja_Text_add_40 rfl ?_
            show q_W _ _ _ _ 45 [some (.ref 117)] [] s10
            refine q_aload_n (pc' := 46) ja_Reader_readOne_45 rfl rfl ?_
            refine q_virt (pc' := 49) (c := 117) (as := []) (r := []) ja_Reader_readOne_46 rfl rfl rfl (by decide) ⟨rfl, by decide⟩ ?_
            exact (k12 h2 h3 h17 h19 h20 s9 e9 s10 e10)
          · intro h21
            refine q_vret ja_Text_add_19 rfl ?_
            show q_W _ _ _ _ 45 [some (.ref 117)] [] s
            refine q_aload_n (pc' := 46) ja_Reader_readOne_45 rfl rfl ?_
            refine q_virt (pc' := 49) (c := 117) (as := []) (r := []) ja_Reader_readOne_46 rfl rfl rfl (by decide) ⟨rfl, by decide⟩ ?_
            exact (k13 h2 h3 h17 h19 h21)
    · intro h22
      refine q_aload_n (pc' := 19) ja_Reader_readOne_18 rfl rfl ?_
      refine q_virt (pc' := 22) (c := 117) (as := []) (r := []) ja_Reader_readOne_19 rfl rfl rfl (by decide) ⟨rfl, by decide⟩ ?_
      exact (k14 h2 h22)
set_option maxRecDepth 20000 in
theorem t_Reader_readOne_22 {G : jv_X} {d : Nat} {B : Option Value → jg_H → Prop} {s : jg_H} 
    (k1 : B none s) :
    q_W G (d + 1) jm_Reader_readOne B 22 [some (.ref 117)] [] s := by
  refine q_goto ja_Reader_readOne_22 ?_
  exact q_vret ja_Reader_readOne_92 rfl k1
set_option maxRecDepth 20000 in
theorem t_Reader_readOne_49 {G : jv_X} {d : Nat} {B : Option Value → jg_H → Prop} {s : jg_H} 
    (k1 : B none s) :
    q_W G (d + 1) jm_Reader_readOne B 49 [some (.ref 117)] [] s := by
  refine q_goto ja_Reader_readOne_49 ?_
  exact q_vret ja_Reader_readOne_92 rfl k1
set_option maxRecDepth 20000 in
theorem t_Reader_readOne_85 {G : jv_X} {d : Nat} {B : Option Value → jg_H → Prop} {s : jg_H} 
    (k1 : B none s) :
    q_W G (d + 1) jm_Reader_readOne B 85 [some (.ref 117)] [] s := by
  refine q_goto ja_Reader_readOne_85 ?_
  exact q_vret ja_Reader_readOne_92 rfl k1
set_option maxRecDepth 20000 in
theorem t_Reader_readOpened {G : jv_X} {d : Nat} {B : Option Value → jg_H → Prop} {s : jg_H} 
    (k1 : (s 117 6) < 5 → ∀ s1 : jg_H, s1 = jg_up s 117 6 ((s 117 6) + 1) → q_P G (d + 1) 21 [.ref 117] s1 (fun v t => q_W G (d + 1) jm_Reader_readOpened B 32 [some (.ref 117), some (.int (s 117 4))] (v.toList ++ []) t))
    (k2 : ¬ (s 117 6) < 5 → ¬ (s 117 7) = (-1) → ∀ s2 : jg_H, s2 = jg_up s 117 4 17 → B none s2)
    (k3 : ¬ (s 117 6) < 5 → (s 117 7) = (-1) → ∀ s3 : jg_H, s3 = jg_up s 117 7 (s 117 2) → ∀ s4 : jg_H, s4 = jg_up s3 117 4 17 → B none s4) :
    q_P G (d + 2) 34 [.ref 117] s B := by
  refine q_in (M := jm_Reader_readOpened) rfl (Nat.le_of_ble_eq_true rfl) (ls := [some (.ref 117), none]) rfl ?_
  refine q_aload_n (pc' := 1) ja_Reader_readOpened_0 rfl rfl ?_
  refine q_getf (pc' := 4) (v := .int (s 117 6)) ja_Reader_readOpened_1 rfl (by decide) ⟨rfl, by decide⟩ rfl ?_
  refine q_iconst (pc' := 5) ja_Reader_readOpened_4 rfl 5 (by decide) ?_
  refine q_ic_lt (pc' := 8) ja_Reader_readOpened_5 rfl ?_ ?_
  · intro h1
    refine q_aload_n (pc' := 14) ja_Reader_readOpened_13 rfl rfl ?_
    refine q_getf (pc' := 17) (v := .int (s 117 4)) ja_Reader_readOpened_14 rfl (by decide) ⟨rfl, by decide⟩ rfl ?_
    refine q_istore_n (pc' := 18) (ls' := [some (.ref 117), some (.int (s 117 4))]) ja_Reader_readOpened_17 rfl ⟨Nat.le_of_ble_eq_true rfl, rfl⟩ rfl ?_
    refine q_aload_n (pc' := 19) ja_Reader_readOpened_18 rfl rfl ?_
    refine q_dup (pc' := 20) ja_Reader_readOpened_19 rfl rfl ?_
    refine q_getf (pc' := 23) (v := .int (s 117 6)) ja_Reader_readOpened_20 rfl (by decide) ⟨rfl, by decide⟩ rfl ?_
    refine q_iconst (pc' := 24) ja_Reader_readOpened_23 rfl 1 (by decide) ?_
    refine q_iadd (pc' := 25) ja_Reader_readOpened_24 rfl ?_
    refine q_putf (pc' := 28) ja_Reader_readOpened_25 rfl (by decide) rfl rfl rfl ?_
    intro s1 e1
    refine q_aload_n (pc' := 29) ja_Reader_readOpened_28 rfl rfl ?_
    refine q_virt (pc' := 32) (c := 117) (as := []) (r := []) ja_Reader_readOpened_29 rfl rfl rfl (by decide) ⟨rfl, by decide⟩ ?_
    exact (k1 h1 s1 e1)
  · intro h2
    refine q_aload_n (pc' := 9) ja_Reader_readOpened_8 rfl rfl ?_
    refine q_virt (pc' := 12) (c := 117) (as := []) (r := []) ja_Reader_readOpened_9 rfl rfl rfl (by decide) ⟨rfl, by decide⟩ ?_
    refine q_in (M := jm_Reader_fail) rfl (Nat.le_of_ble_eq_true rfl) (ls := [some (.ref 117)]) rfl ?_
    refine q_aload_n (pc' := 1) ja_Reader_fail_0 rfl rfl ?_
    refine q_getf (pc' := 4) (v := .int (s 117 7)) ja_Reader_fail_1 rfl (by decide) ⟨rfl, by decide⟩ rfl ?_
    refine q_iconst (pc' := 5) ja_Reader_fail_4 rfl (-1) (by decide) ?_
    refine q_ic_ne (pc' := 8) ja_Reader_fail_5 rfl ?_ ?_
    · intro h3
      refine q_aload_n (pc' := 17) ja_Reader_fail_16 rfl rfl ?_
      refine q_bipush (pc' := 19) ja_Reader_fail_17 rfl 17 (by decide) ?_
      refine q_putf (pc' := 22) ja_Reader_fail_19 rfl (by decide) rfl rfl rfl ?_
      intro s2 e2
      refine q_vret ja_Reader_fail_22 rfl ?_
      show q_W _ _ _ _ 12 [some (.ref 117), none] [] s2
      exact q_vret ja_Reader_readOpened_12 rfl (k2 h2 h3 s2 e2)
    · intro h4
      refine q_aload_n (pc' := 9) ja_Reader_fail_8 rfl rfl ?_
      refine q_aload_n (pc' := 10) ja_Reader_fail_9 rfl rfl ?_
      refine q_getf (pc' := 13) (v := .int (s 117 2)) ja_Reader_fail_10 rfl (by decide) ⟨rfl, by decide⟩ rfl ?_
      refine q_putf (pc' := 16) ja_Reader_fail_13 rfl (by decide) rfl rfl rfl ?_
      intro s3 e3
      refine q_aload_n (pc' := 17) ja_Reader_fail_16 rfl rfl ?_
      refine q_bipush (pc' := 19) ja_Reader_fail_17 rfl 17 (by decide) ?_
      refine q_putf (pc' := 22) ja_Reader_fail_19 rfl (by decide) rfl rfl rfl ?_
      intro s4 e4
      refine q_vret ja_Reader_fail_22 rfl ?_
      show q_W _ _ _ _ 12 [some (.ref 117), none] [] s4
      exact q_vret ja_Reader_readOpened_12 rfl (k3 h2 h4 s3 e3 s4 e4)
set_option maxRecDepth 20000 in
theorem t_Reader_readOpened_32 {G : jv_X} {d : Nat} {B : Option Value → jg_H → Prop} {s : jg_H} (x1 : Int32)
    (k1 : ¬ x1 = 40 → ¬ x1 = 14 → q_P G (d + 1) 36 [.ref 117] s (fun v t => q_W G (d + 1) jm_Reader_readOpened B 77 [some (.ref 117), some (.int x1)] (v.toList ++ []) t))
    (k2 : ¬ x1 = 40 → x1 = 14 → q_P G (d + 1) 33 [.ref 117] s (fun v t => q_W G (d + 1) jm_Reader_readOpened B 61 [some (.ref 117), some (.int x1)] (v.toList ++ []) t))
    (k3 : x1 = 40 → q_P G (d + 1) 31 [.ref 117] s (fun v t => q_W G (d + 1) jm_Reader_readOpened B 42 [some (.ref 117), some (.int x1)] (v.toList ++ []) t)) :
    q_W G (d + 1) jm_Reader_readOpened B 32 [some (.ref 117), some (.int x1)] [] s := by
  refine q_iload_n (pc' := 33) ja_Reader_readOpened_32 rfl rfl ?_
  refine q_bipush (pc' := 35) ja_Reader_readOpened_33 rfl 40 (by decide) ?_
  refine q_ic_ne (pc' := 38) ja_Reader_readOpened_35 rfl ?_ ?_
  · intro h1
    refine q_iload_n (pc' := 52) ja_Reader_readOpened_51 rfl rfl ?_
    refine q_bipush (pc' := 54) ja_Reader_readOpened_52 rfl 14 (by decide) ?_
    refine q_ic_ne (pc' := 57) ja_Reader_readOpened_54 rfl ?_ ?_
    · intro h2
      refine q_aload_n (pc' := 74) ja_Reader_readOpened_73 rfl rfl ?_
      refine q_virt (pc' := 77) (c := 117) (as := []) (r := []) ja_Reader_readOpened_74 rfl rfl rfl (by decide) ⟨rfl, by decide⟩ ?_
      exact (k1 h1 h2)
    · intro h3
      refine q_aload_n (pc' := 58) ja_Reader_readOpened_57 rfl rfl ?_
      refine q_virt (pc' := 61) (c := 117) (as := []) (r := []) ja_Reader_readOpened_58 rfl rfl rfl (by decide) ⟨rfl, by decide⟩ ?_
      exact (k2 h1 h3)
  · intro h4
    refine q_aload_n (pc' := 39) ja_Reader_readOpened_38 rfl rfl ?_
    refine q_virt (pc' := 42) (c := 117) (as := []) (r := []) ja_Reader_readOpened_39 rfl rfl rfl (by decide) ⟨rfl, by decide⟩ ?_
    exact (k3 h4)
set_option maxRecDepth 20000 in
theorem t_Reader_readOpened_42 {G : jv_X} {d : Nat} {B : Option Value → jg_H → Prop} {s : jg_H} (x1 : Int32)
    (k1 : q_P G (d + 1) 30 [.ref 117, .int 41] s (fun v t => q_W G (d + 1) jm_Reader_readOpened B 48 [some (.ref 117), some (.int x1)] (v.toList ++ []) t)) :
    q_W G (d + 1) jm_Reader_readOpened B 42 [some (.ref 117), some (.int x1)] [] s := by
  refine q_aload_n (pc' := 43) ja_Reader_readOpened_42 rfl rfl ?_
  refine q_bipush (pc' := 45) ja_Reader_readOpened_43 rfl 41 (by decide) ?_
  refine q_virt (pc' := 48) (c := 117) (as := [.int 41]) (r := []) ja_Reader_readOpened_45 rfl rfl rfl (by decide) ⟨rfl, by decide⟩ ?_
  exact k1
set_option maxRecDepth 20000 in
theorem t_Reader_readOpened_48 {G : jv_X} {d : Nat} {B : Option Value → jg_H → Prop} {s : jg_H} (x1 : Int32)
    (k1 : ∀ s1 : jg_H, s1 = jg_up s 117 6 ((s 117 6) - 1) → B none s1) :
    q_W G (d + 1) jm_Reader_readOpened B 48 [some (.ref 117), some (.int x1)] [] s := by
  refine q_goto ja_Reader_readOpened_48 ?_
  refine q_aload_n (pc' := 87) ja_Reader_readOpened_86 rfl rfl ?_
  refine q_dup (pc' := 88) ja_Reader_readOpened_87 rfl rfl ?_
  refine q_getf (pc' := 91) (v := .int (s 117 6)) ja_Reader_readOpened_88 rfl (by decide) ⟨rfl, by decide⟩ rfl ?_
  refine q_iconst (pc' := 92) ja_Reader_readOpened_91 rfl 1 (by decide) ?_
  refine q_isub (pc' := 93) ja_Reader_readOpened_92 rfl ?_
  refine q_putf (pc' := 96) ja_Reader_readOpened_93 rfl (by decide) rfl rfl rfl ?_
  intro s1 e1
  exact q_vret ja_Reader_readOpened_96 rfl (k1 s1 e1)
set_option maxRecDepth 20000 in
theorem t_Reader_readOpened_61 {G : jv_X} {d : Nat} {B : Option Value → jg_H → Prop} {s : jg_H} {T : Nat} (hT : f_9 T) (x1 : Int32)
    (k1 : s 117 8 = Int32.ofNat T)
    (k2 : (s T 1) < 0 → ∀ s1 : jg_H, s1 = jg_up s 117 6 ((s 117 6) - 1) → B none s1)
    (k3 : ¬ (s T 1) < 0 → (s T 1) < 200 → ∀ s2 : jg_H, s2 = jg_up s (T + 1) (s T 1).toNatClampNeg (-11) → ∀ s3 : jg_H, s3 = jg_up s2 T 1 ((s2 T 1) + 1) → ∀ s4 : jg_H, s4 = jg_up s3 117 6 ((s3 117 6) - 1) → B none s4)
    (k4 : ¬ (s T 1) < 0 → ¬ (s T 1) < 200 → ∀ s5 : jg_H, s5 = jg_up s 117 6 ((s 117 6) - 1) → B none s5) :
    q_W G (d + 1) jm_Reader_readOpened B 61 [some (.ref 117), some (.int x1)] [] s := by
  refine q_aload_n (pc' := 62) ja_Reader_readOpened_61 rfl rfl ?_
  refine q_getf (pc' := 65) (v := .ref T) ja_Reader_readOpened_62 rfl (by decide) ⟨rfl, by decide⟩ (f_into hT k1) ?_
  refine q_bipush (pc' := 67) ja_Reader_readOpened_65 rfl (-11) (by decide) ?_
  refine q_virt (pc' := 70) (c := T) (as := [.int (-11)]) (r := []) ja_Reader_readOpened_67 rfl rfl rfl (f_9_c hT) ⟨by rw [f_9_k hT], by decide⟩ ?_
  refine q_in (M := jm_Text_add) rfl (Nat.le_of_ble_eq_true rfl) (ls := [some (.ref T), some (.int (-11))]) rfl ?_
  refine q_aload_n (pc' := 1) ja_Text_add_0 rfl rfl ?_
  refine q_getf (pc' := 4) (v := .int (s T 1)) ja_Text_add_1 rfl (f_9_c hT) ⟨by rw [f_9_k hT], by decide⟩ (f_i (f_9_k hT) rfl) ?_
  refine q_if_lt (pc' := 7) ja_Text_add_4 rfl ?_ ?_
  · intro h1
    refine q_vret ja_Text_add_19 rfl ?_
    show q_W _ _ _ _ 70 [some (.ref 117), some (.int x1)] [] s
    refine q_goto ja_Reader_readOpened_70 ?_
    refine q_aload_n (pc' := 87) ja_Reader_readOpened_86 rfl rfl ?_
    refine q_dup (pc' := 88) ja_Reader_readOpened_87 rfl rfl ?_
    refine q_getf (pc' := 91) (v := .int (s 117 6)) ja_Reader_readOpened_88 rfl (by decide) ⟨rfl, by decide⟩ rfl ?_
    refine q_iconst (pc' := 92) ja_Reader_readOpened_91 rfl 1 (by decide) ?_
    refine q_isub (pc' := 93) ja_Reader_readOpened_92 rfl ?_
    refine q_putf (pc' := 96) ja_Reader_readOpened_93 rfl (by decide) rfl rfl rfl ?_
    intro s1 e1
    exact q_vret ja_Reader_readOpened_96 rfl (k2 h1 s1 e1)
  · intro h2
    refine q_aload_n (pc' := 8) ja_Text_add_7 rfl rfl ?_
    refine q_getf (pc' := 11) (v := .int (s T 1)) ja_Text_add_8 rfl (f_9_c hT) ⟨by rw [f_9_k hT], by decide⟩ (f_i (f_9_k hT) rfl) ?_
    refine q_aload_n (pc' := 12) ja_Text_add_11 rfl rfl ?_
    refine q_getf (pc' := 15) (v := .ref (T + 1)) ja_Text_add_12 rfl (f_9_c hT) ⟨by rw [f_9_k hT], by decide⟩ (f_9_g0 hT) ?_
    refine q_alen (pc' := 16) ja_Text_add_15 rfl (f_a_c (f_9_s0 hT)) (kd := 13) (l := 200) (f_a_k (f_9_s0 hT)) (by decide) (v := 200) (by decide) ?_
    refine q_ic_lt (pc' := 19) ja_Text_add_16 rfl ?_ ?_
    · intro h3
      refine q_aload_n (pc' := 21) ja_Text_add_20 rfl rfl ?_
      refine q_getf (pc' := 24) (v := .ref (T + 1)) ja_Text_add_21 rfl (f_9_c hT) ⟨by rw [f_9_k hT], by decide⟩ (f_9_g0 hT) ?_
      refine q_aload_n (pc' := 25) ja_Text_add_24 rfl rfl ?_
      refine q_getf (pc' := 28) (v := .int (s T 1)) ja_Text_add_25 rfl (f_9_c hT) ⟨by rw [f_9_k hT], by decide⟩ (f_i (f_9_k hT) rfl) ?_
      refine q_iload_n (pc' := 29) ja_Text_add_28 rfl rfl ?_
      refine q_iast (pc' := 30) ja_Text_add_29 rfl (f_a_c (f_9_s0 hT)) (l := 200) (f_a_k (f_9_s0 hT)) (q_inr (l := 200) (by decide) h2 h3) ?_
      intro s2 e2
      refine q_aload_n (pc' := 31) ja_Text_add_30 rfl rfl ?_
      refine q_dup (pc' := 32) ja_Text_add_31 rfl rfl ?_
      refine q_getf (pc' := 35) (v := .int (s2 T 1)) ja_Text_add_32 rfl (f_9_c hT) ⟨by rw [f_9_k hT], by decide⟩ (f_i (f_9_k hT) rfl) ?_
      refine q_iconst (pc' := 36) ja_Text_add_35 rfl 1 (by decide) ?_
      refine q_iadd (pc' := 37) ja_Text_add_36 rfl ?_
      refine q_putf (pc' := 40) ja_Text_add_37 rfl (f_9_c hT) (by rw [f_9_k hT]) rfl (by rw [f_9_k hT]; rfl) ?_
      intro s3 e3
      refine q_vret ja_Text_add_40 rfl ?_
      show q_W _ _ _ _ 70 [some (.ref 117), some (.int x1)] [] s3
      refine q_goto ja_Reader_readOpened_70 ?_
      refine q_aload_n (pc' := 87) ja_Reader_readOpened_86 rfl rfl ?_
      refine q_dup (pc' := 88) ja_Reader_readOpened_87 rfl rfl ?_
      refine q_getf (pc' := 91) (v := .int (s3 117 6)) ja_Reader_readOpened_88 rfl (by decide) ⟨rfl, by decide⟩ rfl ?_
      refine q_iconst (pc' := 92) ja_Reader_readOpened_91 rfl 1 (by decide) ?_
      refine q_isub (pc' := 93) ja_Reader_readOpened_92 rfl ?_
      refine q_putf (pc' := 96) ja_Reader_readOpened_93 rfl (by decide) rfl rfl rfl ?_
      intro s4 e4
      exact q_vret ja_Reader_readOpened_96 rfl (k3 h2 h3 s2 e2 s3 e3 s4 e4)
    · intro h4
      refine q_vret ja_Text_add_19 rfl ?_
      show q_W _ _ _ _ 70 [some (.ref 117), some (.int x1)] [] s
      refine q_goto ja_Reader_readOpened_70 ?_
      refine q_aload_n (pc' := 87) ja_Reader_readOpened_86 rfl rfl ?_
      refine q_dup (pc' := 88) ja_Reader_readOpened_87 rfl rfl ?_
      refine q_getf (pc' := 91) (v := .int (s 117 6)) ja_Reader_readOpened_88 rfl (by decide) ⟨rfl, by decide⟩ rfl ?_
      refine q_iconst (pc' := 92) ja_Reader_readOpened_91 rfl 1 (by decide) ?_
      refine q_isub (pc' := 93) ja_Reader_readOpened_92 rfl ?_
      refine q_putf (pc' := 96) ja_Reader_readOpened_93 rfl (by decide) rfl rfl rfl ?_
      intro s5 e5
      exact q_vret ja_Reader_readOpened_96 rfl (k4 h2 h4 s5 e5)
set_option maxRecDepth 20000 in
theorem t_Reader_readOpened_77 {G : jv_X} {d : Nat} {B : Option Value → jg_H → Prop} {s : jg_H} {T : Nat} (hT : f_9 T) (x1 : Int32)
    (k1 : s 117 8 = Int32.ofNat T)
    (k2 : (s T 1) < 0 → ∀ s1 : jg_H, s1 = jg_up s 117 6 ((s 117 6) - 1) → B none s1)
    (k3 : ¬ (s T 1) < 0 → (s T 1) < 200 → ∀ s2 : jg_H, s2 = jg_up s (T + 1) (s T 1).toNatClampNeg (-17) → ∀ s3 : jg_H, s3 = jg_up s2 T 1 ((s2 T 1) + 1) → ∀ s4 : jg_H, s4 = jg_up s3 117 6 ((s3 117 6) - 1) → B none s4)
    (k4 : ¬ (s T 1) < 0 → ¬ (s T 1) < 200 → ∀ s5 : jg_H, s5 = jg_up s 117 6 ((s 117 6) - 1) → B none s5) :
    q_W G (d + 1) jm_Reader_readOpened B 77 [some (.ref 117), some (.int x1)] [] s := by
  refine q_aload_n (pc' := 78) ja_Reader_readOpened_77 rfl rfl ?_
  refine q_getf (pc' := 81) (v := .ref T) ja_Reader_readOpened_78 rfl (by decide) ⟨rfl, by decide⟩ (f_into hT k1) ?_
  refine q_bipush (pc' := 83) ja_Reader_readOpened_81 rfl (-17) (by decide) ?_
  refine q_virt (pc' := 86) (c := T) (as := [.int (-17)]) (r := []) ja_Reader_readOpened_83 rfl rfl rfl (f_9_c hT) ⟨by rw [f_9_k hT], by decide⟩ ?_
  refine q_in (M := jm_Text_add) rfl (Nat.le_of_ble_eq_true rfl) (ls := [some (.ref T), some (.int (-17))]) rfl ?_
  refine q_aload_n (pc' := 1) ja_Text_add_0 rfl rfl ?_
  refine q_getf (pc' := 4) (v := .int (s T 1)) ja_Text_add_1 rfl (f_9_c hT) ⟨by rw [f_9_k hT], by decide⟩ (f_i (f_9_k hT) rfl) ?_
  refine q_if_lt (pc' := 7) ja_Text_add_4 rfl ?_ ?_
  · intro h1
    refine q_vret ja_Text_add_19 rfl ?_
    show q_W _ _ _ _ 86 [some (.ref 117), some (.int x1)] [] s
    refine q_aload_n (pc' := 87) ja_Reader_readOpened_86 rfl rfl ?_
    refine q_dup (pc' := 88) ja_Reader_readOpened_87 rfl rfl ?_
    refine q_getf (pc' := 91) (v := .int (s 117 6)) ja_Reader_readOpened_88 rfl (by decide) ⟨rfl, by decide⟩ rfl ?_
    refine q_iconst (pc' := 92) ja_Reader_readOpened_91 rfl 1 (by decide) ?_
    refine q_isub (pc' := 93) ja_Reader_readOpened_92 rfl ?_
    refine q_putf (pc' := 96) ja_Reader_readOpened_93 rfl (by decide) rfl rfl rfl ?_
    intro s1 e1
    exact q_vret ja_Reader_readOpened_96 rfl (k2 h1 s1 e1)
  · intro h2
    refine q_aload_n (pc' := 8) ja_Text_add_7 rfl rfl ?_
    refine q_getf (pc' := 11) (v := .int (s T 1)) ja_Text_add_8 rfl (f_9_c hT) ⟨by rw [f_9_k hT], by decide⟩ (f_i (f_9_k hT) rfl) ?_
    refine q_aload_n (pc' := 12) ja_Text_add_11 rfl rfl ?_
    refine q_getf (pc' := 15) (v := .ref (T + 1)) ja_Text_add_12 rfl (f_9_c hT) ⟨by rw [f_9_k hT], by decide⟩ (f_9_g0 hT) ?_
    refine q_alen (pc' := 16) ja_Text_add_15 rfl (f_a_c (f_9_s0 hT)) (kd := 13) (l := 200) (f_a_k (f_9_s0 hT)) (by decide) (v := 200) (by decide) ?_
    refine q_ic_lt (pc' := 19) ja_Text_add_16 rfl ?_ ?_
    · intro h3
      refine q_aload_n (pc' := 21) ja_Text_add_20 rfl rfl ?_
      refine q_getf (pc' := 24) (v := .ref (T + 1)) ja_Text_add_21 rfl (f_9_c hT) ⟨by rw [f_9_k hT], by decide⟩ (f_9_g0 hT) ?_
      refine q_aload_n (pc' := 25) ja_Text_add_24 rfl rfl ?_
      refine q_getf (pc' := 28) (v := .int (s T 1)) ja_Text_add_25 rfl (f_9_c hT) ⟨by rw [f_9_k hT], by decide⟩ (f_i (f_9_k hT) rfl) ?_
      refine q_iload_n (pc' := 29) ja_Text_add_28 rfl rfl ?_
      refine q_iast (pc' := 30) ja_Text_add_29 rfl (f_a_c (f_9_s0 hT)) (l := 200) (f_a_k (f_9_s0 hT)) (q_inr (l := 200) (by decide) h2 h3) ?_
      intro s2 e2
      refine q_aload_n (pc' := 31) ja_Text_add_30 rfl rfl ?_
      refine q_dup (pc' := 32) ja_Text_add_31 rfl rfl ?_
      refine q_getf (pc' := 35) (v := .int (s2 T 1)) ja_Text_add_32 rfl (f_9_c hT) ⟨by rw [f_9_k hT], by decide⟩ (f_i (f_9_k hT) rfl) ?_
      refine q_iconst (pc' := 36) ja_Text_add_35 rfl 1 (by decide) ?_
      refine q_iadd (pc' := 37) ja_Text_add_36 rfl ?_
      refine q_putf (pc' := 40) ja_Text_add_37 rfl (f_9_c hT) (by rw [f_9_k hT]) rfl (by rw [f_9_k hT]; rfl) ?_
      intro s3 e3
      refine q_vret ja_Text_add_40 rfl ?_
      show q_W _ _ _ _ 86 [some (.ref 117), some (.int x1)] [] s3
      refine q_aload_n (pc' := 87) ja_Reader_readOpened_86 rfl rfl ?_
      refine q_dup (pc' := 88) ja_Reader_readOpened_87 rfl rfl ?_
      refine q_getf (pc' := 91) (v := .int (s3 117 6)) ja_Reader_readOpened_88 rfl (by decide) ⟨rfl, by decide⟩ rfl ?_
      refine q_iconst (pc' := 92) ja_Reader_readOpened_91 rfl 1 (by decide) ?_
      refine q_isub (pc' := 93) ja_Reader_readOpened_92 rfl ?_
      refine q_putf (pc' := 96) ja_Reader_readOpened_93 rfl (by decide) rfl rfl rfl ?_
      intro s4 e4
      exact q_vret ja_Reader_readOpened_96 rfl (k3 h2 h3 s2 e2 s3 e3 s4 e4)
    · intro h4
      refine q_vret ja_Text_add_19 rfl ?_
      show q_W _ _ _ _ 86 [some (.ref 117), some (.int x1)] [] s
      refine q_aload_n (pc' := 87) ja_Reader_readOpened_86 rfl rfl ?_
      refine q_dup (pc' := 88) ja_Reader_readOpened_87 rfl rfl ?_
      refine q_getf (pc' := 91) (v := .int (s 117 6)) ja_Reader_readOpened_88 rfl (by decide) ⟨rfl, by decide⟩ rfl ?_
      refine q_iconst (pc' := 92) ja_Reader_readOpened_91 rfl 1 (by decide) ?_
      refine q_isub (pc' := 93) ja_Reader_readOpened_92 rfl ?_
      refine q_putf (pc' := 96) ja_Reader_readOpened_93 rfl (by decide) rfl rfl rfl ?_
      intro s5 e5
      exact q_vret ja_Reader_readOpened_96 rfl (k4 h2 h4 s5 e5)
set_option maxRecDepth 20000 in
theorem t_Reader_readSign {G : jv_X} {d : Nat} {B : Option Value → jg_H → Prop} {s : jg_H} 
    (k1 : (s 117 2) < 0 → ∀ s1 : jg_H, s1 = jg_up s 117 3 ((s 117 3) + 1) → ¬ (s1 117 7) = (-1) → ∀ s2 : jg_H, s2 = jg_up s1 117 4 17 → B none s2)
    (k2 : (s 117 2) < 0 → ∀ s1 : jg_H, s1 = jg_up s 117 3 ((s 117 3) + 1) → (s1 117 7) = (-1) → ∀ s3 : jg_H, s3 = jg_up s1 117 7 (s1 117 2) → ∀ s4 : jg_H, s4 = jg_up s3 117 4 17 → B none s4)
    (k3 : ¬ (s 117 2) < 0 → ¬ (s 117 2) < (s 117 1) → ∀ s5 : jg_H, s5 = jg_up s 117 3 ((s 117 3) + 1) → ¬ (s5 117 7) = (-1) → ∀ s6 : jg_H, s6 = jg_up s5 117 4 17 → B none s6)
    (k4 : ¬ (s 117 2) < 0 → ¬ (s 117 2) < (s 117 1) → ∀ s5 : jg_H, s5 = jg_up s 117 3 ((s 117 3) + 1) → (s5 117 7) = (-1) → ∀ s7 : jg_H, s7 = jg_up s5 117 7 (s5 117 2) → ∀ s8 : jg_H, s8 = jg_up s7 117 4 17 → B none s8)
    (k5 : ¬ (s 117 2) < 0 → (s 117 2) < (s 117 1) → ¬ (s 117 2) < 200 → ∀ s9 : jg_H, s9 = jg_up s 117 3 ((s 117 3) + 1) → ¬ (s9 117 7) = (-1) → ∀ s10 : jg_H, s10 = jg_up s9 117 4 17 → B none s10)
    (k6 : ¬ (s 117 2) < 0 → (s 117 2) < (s 117 1) → ¬ (s 117 2) < 200 → ∀ s9 : jg_H, s9 = jg_up s 117 3 ((s 117 3) + 1) → (s9 117 7) = (-1) → ∀ s11 : jg_H, s11 = jg_up s9 117 7 (s9 117 2) → ∀ s12 : jg_H, s12 = jg_up s11 117 4 17 → B none s12)
    (k7 : ¬ (s 117 2) < 0 → (s 117 2) < (s 117 1) → (s 117 2) < 200 → ∀ s13 : jg_H, s13 = jg_up s 117 3 ((s 117 3) + 1) → ((s 118 (s 117 2).toNatClampNeg) = 40 ∨ (s 118 (s 117 2).toNatClampNeg) = 41 ∨ (s 118 (s 117 2).toNatClampNeg) = 42 ∨ (s 118 (s 117 2).toNatClampNeg) = 43 ∨ (s 118 (s 117 2).toNatClampNeg) = 45 ∨ (s 118 (s 117 2).toNatClampNeg) = 59 ∨ (s 118 (s 117 2).toNatClampNeg) = 60 ∨ (s 118 (s 117 2).toNatClampNeg) = 61) → ∀ s14 : jg_H, s14 = jg_up s13 117 4 (s 118 (s 117 2).toNatClampNeg) → B none s14)
    (k8 : ¬ (s 117 2) < 0 → (s 117 2) < (s 117 1) → (s 117 2) < 200 → ∀ s13 : jg_H, s13 = jg_up s 117 3 ((s 117 3) + 1) → ¬ ((s 118 (s 117 2).toNatClampNeg) = 40 ∨ (s 118 (s 117 2).toNatClampNeg) = 41 ∨ (s 118 (s 117 2).toNatClampNeg) = 42 ∨ (s 118 (s 117 2).toNatClampNeg) = 43 ∨ (s 118 (s 117 2).toNatClampNeg) = 45 ∨ (s 118 (s 117 2).toNatClampNeg) = 59 ∨ (s 118 (s 117 2).toNatClampNeg) = 60 ∨ (s 118 (s 117 2).toNatClampNeg) = 61) → ¬ (s13 117 7) = (-1) → ∀ s15 : jg_H, s15 = jg_up s13 117 4 17 → B none s15)
    (k9 : ¬ (s 117 2) < 0 → (s 117 2) < (s 117 1) → (s 117 2) < 200 → ∀ s13 : jg_H, s13 = jg_up s 117 3 ((s 117 3) + 1) → ¬ ((s 118 (s 117 2).toNatClampNeg) = 40 ∨ (s 118 (s 117 2).toNatClampNeg) = 41 ∨ (s 118 (s 117 2).toNatClampNeg) = 42 ∨ (s 118 (s 117 2).toNatClampNeg) = 43 ∨ (s 118 (s 117 2).toNatClampNeg) = 45 ∨ (s 118 (s 117 2).toNatClampNeg) = 59 ∨ (s 118 (s 117 2).toNatClampNeg) = 60 ∨ (s 118 (s 117 2).toNatClampNeg) = 61) → (s13 117 7) = (-1) → ∀ s16 : jg_H, s16 = jg_up s13 117 7 (s13 117 2) → ∀ s17 : jg_H, s17 = jg_up s16 117 4 17 → B none s17) :
    q_P G (d + 2) 29 [.ref 117] s B := by
  refine q_in (M := jm_Reader_readSign) rfl (Nat.le_of_ble_eq_true rfl) (ls := [some (.ref 117), none]) rfl ?_
  refine q_aload_n (pc' := 1) ja_Reader_readSign_0 rfl rfl ?_
  refine q_aload_n (pc' := 2) ja_Reader_readSign_1 rfl rfl ?_
  refine q_getf (pc' := 5) (v := .int (s 117 2)) ja_Reader_readSign_2 rfl (by decide) ⟨rfl, by decide⟩ rfl ?_
  refine q_virt (pc' := 8) (c := 117) (as := [.int (s 117 2)]) (r := []) ja_Reader_readSign_5 rfl rfl rfl (by decide) ⟨rfl, by decide⟩ ?_
  refine q_in (M := jm_Reader_byteAt) rfl (Nat.le_of_ble_eq_true rfl) (ls := [some (.ref 117), some (.int (s 117 2))]) rfl ?_
  refine q_iload_n (pc' := 1) ja_Reader_byteAt_0 rfl rfl ?_
  refine q_if_lt (pc' := 4) ja_Reader_byteAt_1 rfl ?_ ?_
  · intro h1
    refine q_iconst (pc' := 31) ja_Reader_byteAt_30 rfl 0 (by decide) ?_
    refine q_iret ja_Reader_byteAt_31 rfl rfl ?_
    show q_W _ _ _ _ 8 [some (.ref 117), none] [.int 0] s
    refine q_istore_n (pc' := 9) (ls' := [some (.ref 117), some (.int 0)]) ja_Reader_readSign_8 rfl ⟨Nat.le_of_ble_eq_true rfl, rfl⟩ rfl ?_
    refine q_aload_n (pc' := 10) ja_Reader_readSign_9 rfl rfl ?_
    refine q_dup (pc' := 11) ja_Reader_readSign_10 rfl rfl ?_
    refine q_getf (pc' := 14) (v := .int (s 117 3)) ja_Reader_readSign_11 rfl (by decide) ⟨rfl, by decide⟩ rfl ?_
    refine q_iconst (pc' := 15) ja_Reader_readSign_14 rfl 1 (by decide) ?_
    refine q_iadd (pc' := 16) ja_Reader_readSign_15 rfl ?_
    refine q_putf (pc' := 19) ja_Reader_readSign_16 rfl (by decide) rfl rfl rfl ?_
    intro s1 e1
    refine q_iload_n (pc' := 20) ja_Reader_readSign_19 rfl rfl ?_
    refine q_swOut (pc' := 132) ja_Reader_readSign_20 (by decide) (by decide) ?_
    refine q_aload_n (pc' := 133) ja_Reader_readSign_132 rfl rfl ?_
    refine q_virt (pc' := 136) (c := 117) (as := []) (r := []) ja_Reader_readSign_133 rfl rfl rfl (by decide) ⟨rfl, by decide⟩ ?_
    refine q_in (M := jm_Reader_fail) rfl (Nat.le_of_ble_eq_true rfl) (ls := [some (.ref 117)]) rfl ?_
    refine q_aload_n (pc' := 1) ja_Reader_fail_0 rfl rfl ?_
    refine q_getf (pc' := 4) (v := .int (s1 117 7)) ja_Reader_fail_1 rfl (by decide) ⟨rfl, by decide⟩ rfl ?_
    refine q_iconst (pc' := 5) ja_Reader_fail_4 rfl (-1) (by decide) ?_
    refine q_ic_ne (pc' := 8) ja_Reader_fail_5 rfl ?_ ?_
    · intro h2
      refine q_aload_n (pc' := 17) ja_Reader_fail_16 rfl rfl ?_
      refine q_bipush (pc' := 19) ja_Reader_fail_17 rfl 17 (by decide) ?_
      refine q_putf (pc' := 22) ja_Reader_fail_19 rfl (by decide) rfl rfl rfl ?_
      intro s2 e2
      refine q_vret ja_Reader_fail_22 rfl ?_
      show q_W _ _ _ _ 136 [some (.ref 117), some (.int 0)] [] s2
      exact q_vret ja_Reader_readSign_136 rfl (k1 h1 s1 e1 h2 s2 e2)
    · intro h3
      refine q_aload_n (pc' := 9) ja_Reader_fail_8 rfl rfl ?_
      refine q_aload_n (pc' := 10) ja_Reader_fail_9 rfl rfl ?_
      refine q_getf (pc' := 13) (v := .int (s1 117 2)) ja_Reader_fail_10 rfl (by decide) ⟨rfl, by decide⟩ rfl ?_
      refine q_putf (pc' := 16) ja_Reader_fail_13 rfl (by decide) rfl rfl rfl ?_
      intro s3 e3
      refine q_aload_n (pc' := 17) ja_Reader_fail_16 rfl rfl ?_
      refine q_bipush (pc' := 19) ja_Reader_fail_17 rfl 17 (by decide) ?_
      refine q_putf (pc' := 22) ja_Reader_fail_19 rfl (by decide) rfl rfl rfl ?_
      intro s4 e4
      refine q_vret ja_Reader_fail_22 rfl ?_
      show q_W _ _ _ _ 136 [some (.ref 117), some (.int 0)] [] s4
      exact q_vret ja_Reader_readSign_136 rfl (k2 h1 s1 e1 h3 s3 e3 s4 e4)
  · intro h4
    refine q_iload_n (pc' := 5) ja_Reader_byteAt_4 rfl rfl ?_
    refine q_aload_n (pc' := 6) ja_Reader_byteAt_5 rfl rfl ?_
    refine q_getf (pc' := 9) (v := .int (s 117 1)) ja_Reader_byteAt_6 rfl (by decide) ⟨rfl, by decide⟩ rfl ?_
    refine q_ic_ge (pc' := 12) ja_Reader_byteAt_9 rfl ?_ ?_
    · intro h5
      refine q_iconst (pc' := 31) ja_Reader_byteAt_30 rfl 0 (by decide) ?_
      refine q_iret ja_Reader_byteAt_31 rfl rfl ?_
      show q_W _ _ _ _ 8 [some (.ref 117), none] [.int 0] s
      refine q_istore_n (pc' := 9) (ls' := [some (.ref 117), some (.int 0)]) ja_Reader_readSign_8 rfl ⟨Nat.le_of_ble_eq_true rfl, rfl⟩ rfl ?_
      refine q_aload_n (pc' := 10) ja_Reader_readSign_9 rfl rfl ?_
      refine q_dup (pc' := 11) ja_Reader_readSign_10 rfl rfl ?_
      refine q_getf (pc' := 14) (v := .int (s 117 3)) ja_Reader_readSign_11 rfl (by decide) ⟨rfl, by decide⟩ rfl ?_
      refine q_iconst (pc' := 15) ja_Reader_readSign_14 rfl 1 (by decide) ?_
      refine q_iadd (pc' := 16) ja_Reader_readSign_15 rfl ?_
      refine q_putf (pc' := 19) ja_Reader_readSign_16 rfl (by decide) rfl rfl rfl ?_
      intro s5 e5
      refine q_iload_n (pc' := 20) ja_Reader_readSign_19 rfl rfl ?_
      refine q_swOut (pc' := 132) ja_Reader_readSign_20 (by decide) (by decide) ?_
      refine q_aload_n (pc' := 133) ja_Reader_readSign_132 rfl rfl ?_
      refine q_virt (pc' := 136) (c := 117) (as := []) (r := []) ja_Reader_readSign_133 rfl rfl rfl (by decide) ⟨rfl, by decide⟩ ?_
      refine q_in (M := jm_Reader_fail) rfl (Nat.le_of_ble_eq_true rfl) (ls := [some (.ref 117)]) rfl ?_
      refine q_aload_n (pc' := 1) ja_Reader_fail_0 rfl rfl ?_
      refine q_getf (pc' := 4) (v := .int (s5 117 7)) ja_Reader_fail_1 rfl (by decide) ⟨rfl, by decide⟩ rfl ?_
      refine q_iconst (pc' := 5) ja_Reader_fail_4 rfl (-1) (by decide) ?_
      refine q_ic_ne (pc' := 8) ja_Reader_fail_5 rfl ?_ ?_
      · intro h6
        refine q_aload_n (pc' := 17) ja_Reader_fail_16 rfl rfl ?_
        refine q_bipush (pc' := 19) ja_Reader_fail_17 rfl 17 (by decide) ?_
        refine q_putf (pc' := 22) ja_Reader_fail_19 rfl (by decide) rfl rfl rfl ?_
        intro s6 e6
        refine q_vret ja_Reader_fail_22 rfl ?_
        show q_W _ _ _ _ 136 [some (.ref 117), some (.int 0)] [] s6
        exact q_vret ja_Reader_readSign_136 rfl (k3 h4 h5 s5 e5 h6 s6 e6)
      · intro h7
        refine q_aload_n (pc' := 9) ja_Reader_fail_8 rfl rfl ?_
        refine q_aload_n (pc' := 10) ja_Reader_fail_9 rfl rfl ?_
        refine q_getf (pc' := 13) (v := .int (s5 117 2)) ja_Reader_fail_10 rfl (by decide) ⟨rfl, by decide⟩ rfl ?_
        refine q_putf (pc' := 16) ja_Reader_fail_13 rfl (by decide) rfl rfl rfl ?_
        intro s7 e7
        refine q_aload_n (pc' := 17) ja_Reader_fail_16 rfl rfl ?_
        refine q_bipush (pc' := 19) ja_Reader_fail_17 rfl 17 (by decide) ?_
        refine q_putf (pc' := 22) ja_Reader_fail_19 rfl (by decide) rfl rfl rfl ?_
        intro s8 e8
        refine q_vret ja_Reader_fail_22 rfl ?_
        show q_W _ _ _ _ 136 [some (.ref 117), some (.int 0)] [] s8
        exact q_vret ja_Reader_readSign_136 rfl (k4 h4 h5 s5 e5 h7 s7 e7 s8 e8)
    · intro h8
      refine q_iload_n (pc' := 13) ja_Reader_byteAt_12 rfl rfl ?_
      refine q_aload_n (pc' := 14) ja_Reader_byteAt_13 rfl rfl ?_
      refine q_getf (pc' := 17) (v := .ref 118) ja_Reader_byteAt_14 rfl (by decide) ⟨rfl, by decide⟩ rfl ?_
      refine q_alen (pc' := 18) ja_Reader_byteAt_17 rfl (by decide) (kd := 13) (l := 200) rfl (by decide) (v := 200) (by decide) ?_
      refine q_ic_ge (pc' := 21) ja_Reader_byteAt_18 rfl ?_ ?_
      · intro h9
        refine q_iconst (pc' := 31) ja_Reader_byteAt_30 rfl 0 (by decide) ?_
        refine q_iret ja_Reader_byteAt_31 rfl rfl ?_
        show q_W _ _ _ _ 8 [some (.ref 117), none] [.int 0] s
        refine q_istore_n (pc' := 9) (ls' := [some (.ref 117), some (.int 0)]) ja_Reader_readSign_8 rfl ⟨Nat.le_of_ble_eq_true rfl, rfl⟩ rfl ?_
        refine q_aload_n (pc' := 10) ja_Reader_readSign_9 rfl rfl ?_
        refine q_dup (pc' := 11) ja_Reader_readSign_10 rfl rfl ?_
        refine q_getf (pc' := 14) (v := .int (s 117 3)) ja_Reader_readSign_11 rfl (by decide) ⟨rfl, by decide⟩ rfl ?_
        refine q_iconst (pc' := 15) ja_Reader_readSign_14 rfl 1 (by decide) ?_
        refine q_iadd (pc' := 16) ja_Reader_readSign_15 rfl ?_
        refine q_putf (pc' := 19) ja_Reader_readSign_16 rfl (by decide) rfl rfl rfl ?_
        intro s9 e9
        refine q_iload_n (pc' := 20) ja_Reader_readSign_19 rfl rfl ?_
        refine q_swOut (pc' := 132) ja_Reader_readSign_20 (by decide) (by decide) ?_
        refine q_aload_n (pc' := 133) ja_Reader_readSign_132 rfl rfl ?_
        refine q_virt (pc' := 136) (c := 117) (as := []) (r := []) ja_Reader_readSign_133 rfl rfl rfl (by decide) ⟨rfl, by decide⟩ ?_
        refine q_in (M := jm_Reader_fail) rfl (Nat.le_of_ble_eq_true rfl) (ls := [some (.ref 117)]) rfl ?_
        refine q_aload_n (pc' := 1) ja_Reader_fail_0 rfl rfl ?_
        refine q_getf (pc' := 4) (v := .int (s9 117 7)) ja_Reader_fail_1 rfl (by decide) ⟨rfl, by decide⟩ rfl ?_
        refine q_iconst (pc' := 5) ja_Reader_fail_4 rfl (-1) (by decide) ?_
        refine q_ic_ne (pc' := 8) ja_Reader_fail_5 rfl ?_ ?_
        · intro h10
          refine q_aload_n (pc' := 17) ja_Reader_fail_16 rfl rfl ?_
          refine q_bipush (pc' := 19) ja_Reader_fail_17 rfl 17 (by decide) ?_
          refine q_putf (pc' := 22) ja_Reader_fail_19 rfl (by decide) rfl rfl rfl ?_
          intro s10 e10
          refine q_vret ja_Reader_fail_22 rfl ?_
          show q_W _ _ _ _ 136 [some (.ref 117), some (.int 0)] [] s10
          exact q_vret ja_Reader_readSign_136 rfl (k5 h4 h8 h9 s9 e9 h10 s10 e10)
        · intro h11
          refine q_aload_n (pc' := 9) ja_Reader_fail_8 rfl rfl ?_
          refine q_aload_n (pc' := 10) ja_Reader_fail_9 rfl rfl ?_
          refine q_getf (pc' := 13) (v := .int (s9 117 2)) ja_Reader_fail_10 rfl (by decide) ⟨rfl, by decide⟩ rfl ?_
          refine q_putf (pc' := 16) ja_Reader_fail_13 rfl (by decide) rfl rfl rfl ?_
          intro s11 e11
          refine q_aload_n (pc' := 17) ja_Reader_fail_16 rfl rfl ?_
          refine q_bipush (pc' := 19) ja_Reader_fail_17 rfl 17 (by decide) ?_
          refine q_putf (pc' := 22) ja_Reader_fail_19 rfl (by decide) rfl rfl rfl ?_
          intro s12 e12
          refine q_vret ja_Reader_fail_22 rfl ?_
          show q_W _ _ _ _ 136 [some (.ref 117), some (.int 0)] [] s12
          exact q_vret ja_Reader_readSign_136 rfl (k6 h4 h8 h9 s9 e9 h11 s11 e11 s12 e12)
      · intro h12
        refine q_aload_n (pc' := 22) ja_Reader_byteAt_21 rfl rfl ?_
        refine q_getf (pc' := 25) (v := .ref 118) ja_Reader_byteAt_22 rfl (by decide) ⟨rfl, by decide⟩ rfl ?_
        refine q_iload_n (pc' := 26) ja_Reader_byteAt_25 rfl rfl ?_
        refine q_iald (pc' := 27) (v := .int (s 118 (s 117 2).toNatClampNeg)) ja_Reader_byteAt_26 rfl (by decide) (l := 200) rfl (q_inr (l := 200) (by decide) h4 h12) rfl ?_
        refine q_goto ja_Reader_byteAt_27 ?_
        refine q_iret ja_Reader_byteAt_31 rfl rfl ?_
        show q_W _ _ _ _ 8 [some (.ref 117), none] [.int (s 118 (s 117 2).toNatClampNeg)] s
        refine q_istore_n (pc' := 9) (ls' := [some (.ref 117), some (.int (s 118 (s 117 2).toNatClampNeg))]) ja_Reader_readSign_8 rfl ⟨Nat.le_of_ble_eq_true rfl, rfl⟩ rfl ?_
        refine q_aload_n (pc' := 10) ja_Reader_readSign_9 rfl rfl ?_
        refine q_dup (pc' := 11) ja_Reader_readSign_10 rfl rfl ?_
        refine q_getf (pc' := 14) (v := .int (s 117 3)) ja_Reader_readSign_11 rfl (by decide) ⟨rfl, by decide⟩ rfl ?_
        refine q_iconst (pc' := 15) ja_Reader_readSign_14 rfl 1 (by decide) ?_
        refine q_iadd (pc' := 16) ja_Reader_readSign_15 rfl ?_
        refine q_putf (pc' := 19) ja_Reader_readSign_16 rfl (by decide) rfl rfl rfl ?_
        intro s13 e13
        refine q_iload_n (pc' := 20) ja_Reader_readSign_19 rfl rfl ?_
        by_cases h13 : ((s 118 (s 117 2).toNatClampNeg) = 40 ∨ (s 118 (s 117 2).toNatClampNeg) = 41 ∨ (s 118 (s 117 2).toNatClampNeg) = 42 ∨ (s 118 (s 117 2).toNatClampNeg) = 43 ∨ (s 118 (s 117 2).toNatClampNeg) = 45 ∨ (s 118 (s 117 2).toNatClampNeg) = 59 ∨ (s 118 (s 117 2).toNatClampNeg) = 60 ∨ (s 118 (s 117 2).toNatClampNeg) = 61)
        · refine q_swE (pc' := 124) ja_Reader_readSign_20 (by rcases h13 with e | e | e | e | e | e | e | e <;> (rw [e]; decide)) (by rcases h13 with e | e | e | e | e | e | e | e <;> (rw [e]; exact ⟨_, rfl, rfl⟩)) ?_
          refine q_aload_n (pc' := 125) ja_Reader_readSign_124 rfl rfl ?_
          refine q_iload_n (pc' := 126) ja_Reader_readSign_125 rfl rfl ?_
          refine q_putf (pc' := 129) ja_Reader_readSign_126 rfl (by decide) rfl rfl rfl ?_
          intro s14 e14
          refine q_goto ja_Reader_readSign_129 ?_
          exact q_vret ja_Reader_readSign_136 rfl (k7 h4 h8 h12 s13 e13 h13 s14 e14)
        refine q_swD (pc' := 132) ja_Reader_readSign_20 [40, 41, 42, 43, 45, 59, 60, 61] (List.forall_mem_cons.mpr ⟨fun e => h13 (by rw [e]; decide), (List.forall_mem_cons.mpr ⟨fun e => h13 (by rw [e]; decide), (List.forall_mem_cons.mpr ⟨fun e => h13 (by rw [e]; decide), (List.forall_mem_cons.mpr ⟨fun e => h13 (by rw [e]; decide), (List.forall_mem_cons.mpr ⟨fun e => h13 (by rw [e]; decide), (List.forall_mem_cons.mpr ⟨fun e => h13 (by rw [e]; decide), (List.forall_mem_cons.mpr ⟨fun e => h13 (by rw [e]; decide), (List.forall_mem_cons.mpr ⟨fun e => h13 (by rw [e]; decide), (List.forall_mem_nil _)⟩)⟩)⟩)⟩)⟩)⟩)⟩)⟩) (by decide) rfl ?_
        refine q_aload_n (pc' := 133) ja_Reader_readSign_132 rfl rfl ?_
        refine q_virt (pc' := 136) (c := 117) (as := []) (r := []) ja_Reader_readSign_133 rfl rfl rfl (by decide) ⟨rfl, by decide⟩ ?_
        refine q_in (M := jm_Reader_fail) rfl (Nat.le_of_ble_eq_true rfl) (ls := [some (.ref 117)]) rfl ?_
        refine q_aload_n (pc' := 1) ja_Reader_fail_0 rfl rfl ?_
        refine q_getf (pc' := 4) (v := .int (s13 117 7)) ja_Reader_fail_1 rfl (by decide) ⟨rfl, by decide⟩ rfl ?_
        refine q_iconst (pc' := 5) ja_Reader_fail_4 rfl (-1) (by decide) ?_
        refine q_ic_ne (pc' := 8) ja_Reader_fail_5 rfl ?_ ?_
        · intro h14
          refine q_aload_n (pc' := 17) ja_Reader_fail_16 rfl rfl ?_
          refine q_bipush (pc' := 19) ja_Reader_fail_17 rfl 17 (by decide) ?_
          refine q_putf (pc' := 22) ja_Reader_fail_19 rfl (by decide) rfl rfl rfl ?_
          intro s15 e15
          refine q_vret ja_Reader_fail_22 rfl ?_
          show q_W _ _ _ _ 136 [some (.ref 117), some (.int (s 118 (s 117 2).toNatClampNeg))] [] s15
          exact q_vret ja_Reader_readSign_136 rfl (k8 h4 h8 h12 s13 e13 h13 h14 s15 e15)
        · intro h15
          refine q_aload_n (pc' := 9) ja_Reader_fail_8 rfl rfl ?_
          refine q_aload_n (pc' := 10) ja_Reader_fail_9 rfl rfl ?_
          refine q_getf (pc' := 13) (v := .int (s13 117 2)) ja_Reader_fail_10 rfl (by decide) ⟨rfl, by decide⟩ rfl ?_
          refine q_putf (pc' := 16) ja_Reader_fail_13 rfl (by decide) rfl rfl rfl ?_
          intro s16 e16
          refine q_aload_n (pc' := 17) ja_Reader_fail_16 rfl rfl ?_
          refine q_bipush (pc' := 19) ja_Reader_fail_17 rfl 17 (by decide) ?_
          refine q_putf (pc' := 22) ja_Reader_fail_19 rfl (by decide) rfl rfl rfl ?_
          intro s17 e17
          refine q_vret ja_Reader_fail_22 rfl ?_
          show q_W _ _ _ _ 136 [some (.ref 117), some (.int (s 118 (s 117 2).toNatClampNeg))] [] s17
          exact q_vret ja_Reader_readSign_136 rfl (k9 h4 h8 h12 s13 e13 h13 h15 s16 e16 s17 e17)
set_option maxRecDepth 20000 in
theorem t_Reader_readSome {G : jv_X} {d : Nat} {B : Option Value → jg_H → Prop} {s : jg_H} 
    (k1 : q_P G (d + 1) 32 [.ref 117] s (fun v t => q_W G (d + 1) jm_Reader_readSome B 4 [some (.ref 117), none] (v.toList ++ []) t)) :
    q_P G (d + 2) 31 [.ref 117] s B := by
  refine q_in (M := jm_Reader_readSome) rfl (Nat.le_of_ble_eq_true rfl) (ls := [some (.ref 117), none]) rfl ?_
  refine q_aload_n (pc' := 1) ja_Reader_readSome_0 rfl rfl ?_
  refine q_virt (pc' := 4) (c := 117) (as := []) (r := []) ja_Reader_readSome_1 rfl rfl rfl (by decide) ⟨rfl, by decide⟩ ?_
  exact k1
set_option maxRecDepth 20000 in
theorem t_Reader_readSome_4 {G : jv_X} {d : Nat} {B : Option Value → jg_H → Prop} {s : jg_H} 
    (k1 : q_W G (d + 1) jm_Reader_readSome B 6 [some (.ref 117), some (.int 0)] [] s) :
    q_W G (d + 1) jm_Reader_readSome B 4 [some (.ref 117), none] [] s := by
  refine q_iconst (pc' := 5) ja_Reader_readSome_4 rfl 0 (by decide) ?_
  refine q_istore_n (pc' := 6) (ls' := [some (.ref 117), some (.int 0)]) ja_Reader_readSome_5 rfl ⟨Nat.le_of_ble_eq_true rfl, rfl⟩ rfl ?_
  exact k1
set_option maxRecDepth 20000 in
theorem t_Reader_readSome_6 {G : jv_X} {d : Nat} {B : Option Value → jg_H → Prop} {s : jg_H} (x1 : Int32)
    (k1 : ¬ x1 < 200 → B none s)
    (k2 : x1 < 200 → ¬ (s 117 4) = 12 → B none s)
    (k3 : x1 < 200 → (s 117 4) = 12 → q_P G (d + 1) 21 [.ref 117] s (fun v t => q_W G (d + 1) jm_Reader_readSome B 26 [some (.ref 117), some (.int x1)] (v.toList ++ []) t)) :
    q_W G (d + 1) jm_Reader_readSome B 6 [some (.ref 117), some (.int x1)] [] s := by
  refine q_iload_n (pc' := 7) ja_Reader_readSome_6 rfl rfl ?_
  refine q_sipush (pc' := 10) ja_Reader_readSome_7 rfl 200 (by decide) ?_
  refine q_ic_ge (pc' := 13) ja_Reader_readSome_10 rfl ?_ ?_
  · intro h1
    exact q_vret ja_Reader_readSome_45 rfl (k1 h1)
  · intro h2
    refine q_aload_n (pc' := 14) ja_Reader_readSome_13 rfl rfl ?_
    refine q_getf (pc' := 17) (v := .int (s 117 4)) ja_Reader_readSome_14 rfl (by decide) ⟨rfl, by decide⟩ rfl ?_
    refine q_bipush (pc' := 19) ja_Reader_readSome_17 rfl 12 (by decide) ?_
    refine q_ic_ne (pc' := 22) ja_Reader_readSome_19 rfl ?_ ?_
    · intro h3
      exact q_vret ja_Reader_readSome_45 rfl (k2 h2 h3)
    · intro h4
      refine q_aload_n (pc' := 23) ja_Reader_readSome_22 rfl rfl ?_
      refine q_virt (pc' := 26) (c := 117) (as := []) (r := []) ja_Reader_readSome_23 rfl rfl rfl (by decide) ⟨rfl, by decide⟩ ?_
      exact (k3 h2 h4)
set_option maxRecDepth 20000 in
theorem t_Reader_readSome_26 {G : jv_X} {d : Nat} {B : Option Value → jg_H → Prop} {s : jg_H} (x1 : Int32)
    (k1 : q_P G (d + 1) 32 [.ref 117] s (fun v t => q_W G (d + 1) jm_Reader_readSome B 30 [some (.ref 117), some (.int x1)] (v.toList ++ []) t)) :
    q_W G (d + 1) jm_Reader_readSome B 26 [some (.ref 117), some (.int x1)] [] s := by
  refine q_aload_n (pc' := 27) ja_Reader_readSome_26 rfl rfl ?_
  refine q_virt (pc' := 30) (c := 117) (as := []) (r := []) ja_Reader_readSome_27 rfl rfl rfl (by decide) ⟨rfl, by decide⟩ ?_
  exact k1
set_option maxRecDepth 20000 in
theorem t_Reader_readSome_30 {G : jv_X} {d : Nat} {B : Option Value → jg_H → Prop} {s : jg_H} {T : Nat} (hT : f_9 T) (x1 : Int32)
    (k1 : s 117 8 = Int32.ofNat T)
    (k2 : (s T 1) < 0 → q_W G (d + 1) jm_Reader_readSome B 6 [some (.ref 117), some (.int (x1 + 1))] [] s)
    (k3 : ¬ (s T 1) < 0 → (s T 1) < 200 → ∀ s1 : jg_H, s1 = jg_up s (T + 1) (s T 1).toNatClampNeg (-9) → ∀ s2 : jg_H, s2 = jg_up s1 T 1 ((s1 T 1) + 1) → q_W G (d + 1) jm_Reader_readSome B 6 [some (.ref 117), some (.int (x1 + 1))] [] s2)
    (k4 : ¬ (s T 1) < 0 → ¬ (s T 1) < 200 → q_W G (d + 1) jm_Reader_readSome B 6 [some (.ref 117), some (.int (x1 + 1))] [] s) :
    q_W G (d + 1) jm_Reader_readSome B 30 [some (.ref 117), some (.int x1)] [] s := by
  refine q_aload_n (pc' := 31) ja_Reader_readSome_30 rfl rfl ?_
  refine q_getf (pc' := 34) (v := .ref T) ja_Reader_readSome_31 rfl (by decide) ⟨rfl, by decide⟩ (f_into hT k1) ?_
  refine q_bipush (pc' := 36) ja_Reader_readSome_34 rfl (-9) (by decide) ?_
  refine q_virt (pc' := 39) (c := T) (as := [.int (-9)]) (r := []) ja_Reader_readSome_36 rfl rfl rfl (f_9_c hT) ⟨by rw [f_9_k hT], by decide⟩ ?_
  refine q_in (M := jm_Text_add) rfl (Nat.le_of_ble_eq_true rfl) (ls := [some (.ref T), some (.int (-9))]) rfl ?_
  refine q_aload_n (pc' := 1) ja_Text_add_0 rfl rfl ?_
  refine q_getf (pc' := 4) (v := .int (s T 1)) ja_Text_add_1 rfl (f_9_c hT) ⟨by rw [f_9_k hT], by decide⟩ (f_i (f_9_k hT) rfl) ?_
  refine q_if_lt (pc' := 7) ja_Text_add_4 rfl ?_ ?_
  · intro h1
    refine q_vret ja_Text_add_19 rfl ?_
    show q_W _ _ _ _ 39 [some (.ref 117), some (.int x1)] [] s
    refine q_iinc (pc' := 42) (ls' := [some (.ref 117), some (.int (x1 + 1))]) ja_Reader_readSome_39 rfl rfl (x1 + 1) rfl ⟨Nat.le_of_ble_eq_true rfl, rfl⟩ rfl ?_
    refine q_goto ja_Reader_readSome_42 ?_
    exact (k2 h1)
  · intro h2
    refine q_aload_n (pc' := 8) ja_Text_add_7 rfl rfl ?_
    refine q_getf (pc' := 11) (v := .int (s T 1)) ja_Text_add_8 rfl (f_9_c hT) ⟨by rw [f_9_k hT], by decide⟩ (f_i (f_9_k hT) rfl) ?_
    refine q_aload_n (pc' := 12) ja_Text_add_11 rfl rfl ?_
    refine q_getf (pc' := 15) (v := .ref (T + 1)) ja_Text_add_12 rfl (f_9_c hT) ⟨by rw [f_9_k hT], by decide⟩ (f_9_g0 hT) ?_
    refine q_alen (pc' := 16) ja_Text_add_15 rfl (f_a_c (f_9_s0 hT)) (kd := 13) (l := 200) (f_a_k (f_9_s0 hT)) (by decide) (v := 200) (by decide) ?_
    refine q_ic_lt (pc' := 19) ja_Text_add_16 rfl ?_ ?_
    · intro h3
      refine q_aload_n (pc' := 21) ja_Text_add_20 rfl rfl ?_
      refine q_getf (pc' := 24) (v := .ref (T + 1)) ja_Text_add_21 rfl (f_9_c hT) ⟨by rw [f_9_k hT], by decide⟩ (f_9_g0 hT) ?_
      refine q_aload_n (pc' := 25) ja_Text_add_24 rfl rfl ?_
      refine q_getf (pc' := 28) (v := .int (s T 1)) ja_Text_add_25 rfl (f_9_c hT) ⟨by rw [f_9_k hT], by decide⟩ (f_i (f_9_k hT) rfl) ?_
      refine q_iload_n (pc' := 29) ja_Text_add_28 rfl rfl ?_
      refine q_iast (pc' := 30) ja_Text_add_29 rfl (f_a_c (f_9_s0 hT)) (l := 200) (f_a_k (f_9_s0 hT)) (q_inr (l := 200) (by decide) h2 h3) ?_
      intro s1 e1
      refine q_aload_n (pc' := 31) ja_Text_add_30 rfl rfl ?_
      refine q_dup (pc' := 32) ja_Text_add_31 rfl rfl ?_
      refine q_getf (pc' := 35) (v := .int (s1 T 1)) ja_Text_add_32 rfl (f_9_c hT) ⟨by rw [f_9_k hT], by decide⟩ (f_i (f_9_k hT) rfl) ?_
      refine q_iconst (pc' := 36) ja_Text_add_35 rfl 1 (by decide) ?_
      refine q_iadd (pc' := 37) ja_Text_add_36 rfl ?_
      refine q_putf (pc' := 40) ja_Text_add_37 rfl (f_9_c hT) (by rw [f_9_k hT]) rfl (by rw [f_9_k hT]; rfl) ?_
      intro s2 e2
      refine q_vret ja_Text_add_40 rfl ?_
      show q_W _ _ _ _ 39 [some (.ref 117), some (.int x1)] [] s2
      refine q_iinc (pc' := 42) (ls' := [some (.ref 117), some (.int (x1 + 1))]) ja_Reader_readSome_39 rfl rfl (x1 + 1) rfl ⟨Nat.le_of_ble_eq_true rfl, rfl⟩ rfl ?_
      refine q_goto ja_Reader_readSome_42 ?_
      exact (k3 h2 h3 s1 e1 s2 e2)
    · intro h4
      refine q_vret ja_Text_add_19 rfl ?_
      show q_W _ _ _ _ 39 [some (.ref 117), some (.int x1)] [] s
      refine q_iinc (pc' := 42) (ls' := [some (.ref 117), some (.int (x1 + 1))]) ja_Reader_readSome_39 rfl rfl (x1 + 1) rfl ⟨Nat.le_of_ble_eq_true rfl, rfl⟩ rfl ?_
      refine q_goto ja_Reader_readSome_42 ?_
      exact (k4 h2 h4)
set_option maxRecDepth 20000 in
theorem t_Reader_readSum {G : jv_X} {d : Nat} {B : Option Value → jg_H → Prop} {s : jg_H} 
    (k1 : q_P G (d + 1) 38 [.ref 117] s (fun v t => q_W G (d + 1) jm_Reader_readSum B 4 [some (.ref 117), none, none] (v.toList ++ []) t)) :
    q_P G (d + 2) 37 [.ref 117] s B := by
  refine q_in (M := jm_Reader_readSum) rfl (Nat.le_of_ble_eq_true rfl) (ls := [some (.ref 117), none, none]) rfl ?_
  refine q_aload_n (pc' := 1) ja_Reader_readSum_0 rfl rfl ?_
  refine q_virt (pc' := 4) (c := 117) (as := []) (r := []) ja_Reader_readSum_1 rfl rfl rfl (by decide) ⟨rfl, by decide⟩ ?_
  exact k1
set_option maxRecDepth 20000 in
theorem t_Reader_readSum_4 {G : jv_X} {d : Nat} {B : Option Value → jg_H → Prop} {s : jg_H} 
    (k1 : q_W G (d + 1) jm_Reader_readSum B 6 [some (.ref 117), some (.int 0), none] [] s) :
    q_W G (d + 1) jm_Reader_readSum B 4 [some (.ref 117), none, none] [] s := by
  refine q_iconst (pc' := 5) ja_Reader_readSum_4 rfl 0 (by decide) ?_
  refine q_istore_n (pc' := 6) (ls' := [some (.ref 117), some (.int 0), none]) ja_Reader_readSum_5 rfl ⟨Nat.le_of_ble_eq_true rfl, rfl⟩ rfl ?_
  exact k1
set_option maxRecDepth 20000 in
theorem t_Reader_readSum_6 {G : jv_X} {d : Nat} {B : Option Value → jg_H → Prop} {s : jg_H} (x1 : Int32) {o2 : Option Value} (ho2 : f_n o2 = true)
    (k1 : ¬ x1 < 200 → B none s)
    (k2 : x1 < 200 → (s 117 4) = 43 → q_P G (d + 1) 21 [.ref 117] s (fun v t => q_W G (d + 1) jm_Reader_readSum B 52 [some (.ref 117), some (.int x1), some (.int (-14))] (v.toList ++ []) t))
    (k3 : x1 < 200 → ¬ (s 117 4) = 43 → ¬ (s 117 4) = 45 → B none s)
    (k4 : x1 < 200 → ¬ (s 117 4) = 43 → (s 117 4) = 45 → q_P G (d + 1) 21 [.ref 117] s (fun v t => q_W G (d + 1) jm_Reader_readSum B 52 [some (.ref 117), some (.int x1), some (.int (-15))] (v.toList ++ []) t)) :
    q_W G (d + 1) jm_Reader_readSum B 6 [some (.ref 117), some (.int x1), o2] [] s := by
  refine q_iload_n (pc' := 7) ja_Reader_readSum_6 rfl rfl ?_
  refine q_sipush (pc' := 10) ja_Reader_readSum_7 rfl 200 (by decide) ?_
  refine q_ic_ge (pc' := 13) ja_Reader_readSum_10 rfl ?_ ?_
  · intro h1
    exact q_vret ja_Reader_readSum_70 rfl (k1 h1)
  · intro h2
    refine q_aload_n (pc' := 14) ja_Reader_readSum_13 rfl rfl ?_
    refine q_getf (pc' := 17) (v := .int (s 117 4)) ja_Reader_readSum_14 rfl (by decide) ⟨rfl, by decide⟩ rfl ?_
    refine q_bipush (pc' := 19) ja_Reader_readSum_17 rfl 43 (by decide) ?_
    refine q_ic_eq (pc' := 22) ja_Reader_readSum_19 rfl ?_ ?_
    · intro h3
      refine q_aload_n (pc' := 32) ja_Reader_readSum_31 rfl rfl ?_
      refine q_getf (pc' := 35) (v := .int (s 117 4)) ja_Reader_readSum_32 rfl (by decide) ⟨rfl, by decide⟩ rfl ?_
      refine q_bipush (pc' := 37) ja_Reader_readSum_35 rfl 43 (by decide) ?_
      refine q_ic_ne (pc' := 40) ja_Reader_readSum_37 rfl (fun h => absurd (h3) h) (fun _ => ?_)
      refine q_bipush (pc' := 42) ja_Reader_readSum_40 rfl (-14) (by decide) ?_
      refine q_goto ja_Reader_readSum_42 ?_
      refine q_istore_n (pc' := 48) (ls' := [some (.ref 117), some (.int x1), some (.int (-14))]) ja_Reader_readSum_47 rfl ⟨Nat.le_of_ble_eq_true rfl, rfl⟩ rfl ?_
      refine q_aload_n (pc' := 49) ja_Reader_readSum_48 rfl rfl ?_
      refine q_virt (pc' := 52) (c := 117) (as := []) (r := []) ja_Reader_readSum_49 rfl rfl rfl (by decide) ⟨rfl, by decide⟩ ?_
      exact (k2 h2 h3)
    · intro h4
      refine q_aload_n (pc' := 23) ja_Reader_readSum_22 rfl rfl ?_
      refine q_getf (pc' := 26) (v := .int (s 117 4)) ja_Reader_readSum_23 rfl (by decide) ⟨rfl, by decide⟩ rfl ?_
      refine q_bipush (pc' := 28) ja_Reader_readSum_26 rfl 45 (by decide) ?_
      refine q_ic_ne (pc' := 31) ja_Reader_readSum_28 rfl ?_ ?_
      · intro h5
        exact q_vret ja_Reader_readSum_70 rfl (k3 h2 h4 h5)
      · intro h6
        refine q_aload_n (pc' := 32) ja_Reader_readSum_31 rfl rfl ?_
        refine q_getf (pc' := 35) (v := .int (s 117 4)) ja_Reader_readSum_32 rfl (by decide) ⟨rfl, by decide⟩ rfl ?_
        refine q_bipush (pc' := 37) ja_Reader_readSum_35 rfl 43 (by decide) ?_
        refine q_ic_ne (pc' := 40) ja_Reader_readSum_37 rfl (fun _ => ?_) (fun h => absurd h (h4))
        refine q_bipush (pc' := 47) ja_Reader_readSum_45 rfl (-15) (by decide) ?_
        refine q_istore_n (pc' := 48) (ls' := [some (.ref 117), some (.int x1), some (.int (-15))]) ja_Reader_readSum_47 rfl ⟨Nat.le_of_ble_eq_true rfl, rfl⟩ rfl ?_
        refine q_aload_n (pc' := 49) ja_Reader_readSum_48 rfl rfl ?_
        refine q_virt (pc' := 52) (c := 117) (as := []) (r := []) ja_Reader_readSum_49 rfl rfl rfl (by decide) ⟨rfl, by decide⟩ ?_
        exact (k4 h2 h4 h6)
set_option maxRecDepth 20000 in
theorem t_Reader_readSum_52 {G : jv_X} {d : Nat} {B : Option Value → jg_H → Prop} {s : jg_H} (x1 : Int32) (x2 : Int32)
    (k1 : q_P G (d + 1) 38 [.ref 117] s (fun v t => q_W G (d + 1) jm_Reader_readSum B 56 [some (.ref 117), some (.int x1), some (.int x2)] (v.toList ++ []) t)) :
    q_W G (d + 1) jm_Reader_readSum B 52 [some (.ref 117), some (.int x1), some (.int x2)] [] s := by
  refine q_aload_n (pc' := 53) ja_Reader_readSum_52 rfl rfl ?_
  refine q_virt (pc' := 56) (c := 117) (as := []) (r := []) ja_Reader_readSum_53 rfl rfl rfl (by decide) ⟨rfl, by decide⟩ ?_
  exact k1
set_option maxRecDepth 20000 in
theorem t_Reader_readSum_56 {G : jv_X} {d : Nat} {B : Option Value → jg_H → Prop} {s : jg_H} {T : Nat} (hT : f_9 T) (x1 : Int32) (x2 : Int32)
    (k1 : s 117 8 = Int32.ofNat T)
    (k2 : (s T 1) < 0 → q_W G (d + 1) jm_Reader_readSum B 6 [some (.ref 117), some (.int (x1 + 1)), some (.int x2)] [] s)
    (k3 : ¬ (s T 1) < 0 → (s T 1) < 200 → ∀ s1 : jg_H, s1 = jg_up s (T + 1) (s T 1).toNatClampNeg x2 → ∀ s2 : jg_H, s2 = jg_up s1 T 1 ((s1 T 1) + 1) → q_W G (d + 1) jm_Reader_readSum B 6 [some (.ref 117), some (.int (x1 + 1)), some (.int x2)] [] s2)
    (k4 : ¬ (s T 1) < 0 → ¬ (s T 1) < 200 → q_W G (d + 1) jm_Reader_readSum B 6 [some (.ref 117), some (.int (x1 + 1)), some (.int x2)] [] s) :
    q_W G (d + 1) jm_Reader_readSum B 56 [some (.ref 117), some (.int x1), some (.int x2)] [] s := by
  refine q_aload_n (pc' := 57) ja_Reader_readSum_56 rfl rfl ?_
  refine q_getf (pc' := 60) (v := .ref T) ja_Reader_readSum_57 rfl (by decide) ⟨rfl, by decide⟩ (f_into hT k1) ?_
  refine q_iload_n (pc' := 61) ja_Reader_readSum_60 rfl rfl ?_
  refine q_virt (pc' := 64) (c := T) (as := [.int x2]) (r := []) ja_Reader_readSum_61 rfl rfl rfl (f_9_c hT) ⟨by rw [f_9_k hT], by decide⟩ ?_
  refine q_in (M := jm_Text_add) rfl (Nat.le_of_ble_eq_true rfl) (ls := [some (.ref T), some (.int x2)]) rfl ?_
  refine q_aload_n (pc' := 1) ja_Text_add_0 rfl rfl ?_
  refine q_getf (pc' := 4) (v := .int (s T 1)) ja_Text_add_1 rfl (f_9_c hT) ⟨by rw [f_9_k hT], by decide⟩ (f_i (f_9_k hT) rfl) ?_
  refine q_if_lt (pc' := 7) ja_Text_add_4 rfl ?_ ?_
  · intro h1
    refine q_vret ja_Text_add_19 rfl ?_
    show q_W _ _ _ _ 64 [some (.ref 117), some (.int x1), some (.int x2)] [] s
    refine q_iinc (pc' := 67) (ls' := [some (.ref 117), some (.int (x1 + 1)), some (.int x2)]) ja_Reader_readSum_64 rfl rfl (x1 + 1) rfl ⟨Nat.le_of_ble_eq_true rfl, rfl⟩ rfl ?_
    refine q_goto ja_Reader_readSum_67 ?_
    exact (k2 h1)
  · intro h2
    refine q_aload_n (pc' := 8) ja_Text_add_7 rfl rfl ?_
    refine q_getf (pc' := 11) (v := .int (s T 1)) ja_Text_add_8 rfl (f_9_c hT) ⟨by rw [f_9_k hT], by decide⟩ (f_i (f_9_k hT) rfl) ?_
    refine q_aload_n (pc' := 12) ja_Text_add_11 rfl rfl ?_
    refine q_getf (pc' := 15) (v := .ref (T + 1)) ja_Text_add_12 rfl (f_9_c hT) ⟨by rw [f_9_k hT], by decide⟩ (f_9_g0 hT) ?_
    refine q_alen (pc' := 16) ja_Text_add_15 rfl (f_a_c (f_9_s0 hT)) (kd := 13) (l := 200) (f_a_k (f_9_s0 hT)) (by decide) (v := 200) (by decide) ?_
    refine q_ic_lt (pc' := 19) ja_Text_add_16 rfl ?_ ?_
    · intro h3
      refine q_aload_n (pc' := 21) ja_Text_add_20 rfl rfl ?_
      refine q_getf (pc' := 24) (v := .ref (T + 1)) ja_Text_add_21 rfl (f_9_c hT) ⟨by rw [f_9_k hT], by decide⟩ (f_9_g0 hT) ?_
      refine q_aload_n (pc' := 25) ja_Text_add_24 rfl rfl ?_
      refine q_getf (pc' := 28) (v := .int (s T 1)) ja_Text_add_25 rfl (f_9_c hT) ⟨by rw [f_9_k hT], by decide⟩ (f_i (f_9_k hT) rfl) ?_
      refine q_iload_n (pc' := 29) ja_Text_add_28 rfl rfl ?_
      refine q_iast (pc' := 30) ja_Text_add_29 rfl (f_a_c (f_9_s0 hT)) (l := 200) (f_a_k (f_9_s0 hT)) (q_inr (l := 200) (by decide) h2 h3) ?_
      intro s1 e1
      refine q_aload_n (pc' := 31) ja_Text_add_30 rfl rfl ?_
      refine q_dup (pc' := 32) ja_Text_add_31 rfl rfl ?_
      refine q_getf (pc' := 35) (v := .int (s1 T 1)) ja_Text_add_32 rfl (f_9_c hT) ⟨by rw [f_9_k hT], by decide⟩ (f_i (f_9_k hT) rfl) ?_
      refine q_iconst (pc' := 36) ja_Text_add_35 rfl 1 (by decide) ?_
      refine q_iadd (pc' := 37) ja_Text_add_36 rfl ?_
      refine q_putf (pc' := 40) ja_Text_add_37 rfl (f_9_c hT) (by rw [f_9_k hT]) rfl (by rw [f_9_k hT]; rfl) ?_
      intro s2 e2
      refine q_vret ja_Text_add_40 rfl ?_
      show q_W _ _ _ _ 64 [some (.ref 117), some (.int x1), some (.int x2)] [] s2
      refine q_iinc (pc' := 67) (ls' := [some (.ref 117), some (.int (x1 + 1)), some (.int x2)]) ja_Reader_readSum_64 rfl rfl (x1 + 1) rfl ⟨Nat.le_of_ble_eq_true rfl, rfl⟩ rfl ?_
      refine q_goto ja_Reader_readSum_67 ?_
      exact (k3 h2 h3 s1 e1 s2 e2)
    · intro h4
      refine q_vret ja_Text_add_19 rfl ?_
      show q_W _ _ _ _ 64 [some (.ref 117), some (.int x1), some (.int x2)] [] s
      refine q_iinc (pc' := 67) (ls' := [some (.ref 117), some (.int (x1 + 1)), some (.int x2)]) ja_Reader_readSum_64 rfl rfl (x1 + 1) rfl ⟨Nat.le_of_ble_eq_true rfl, rfl⟩ rfl ?_
      refine q_goto ja_Reader_readSum_67 ?_
      exact (k4 h2 h4)
set_option maxRecDepth 20000 in
theorem t_Reader_readTerm {G : jv_X} {d : Nat} {B : Option Value → jg_H → Prop} {s : jg_H} 
    (k1 : q_P G (d + 1) 36 [.ref 117] s (fun v t => q_W G (d + 1) jm_Reader_readTerm B 4 [some (.ref 117), none] (v.toList ++ []) t)) :
    q_P G (d + 2) 38 [.ref 117] s B := by
  refine q_in (M := jm_Reader_readTerm) rfl (Nat.le_of_ble_eq_true rfl) (ls := [some (.ref 117), none]) rfl ?_
  refine q_aload_n (pc' := 1) ja_Reader_readTerm_0 rfl rfl ?_
  refine q_virt (pc' := 4) (c := 117) (as := []) (r := []) ja_Reader_readTerm_1 rfl rfl rfl (by decide) ⟨rfl, by decide⟩ ?_
  exact k1
set_option maxRecDepth 20000 in
theorem t_Reader_readTerm_4 {G : jv_X} {d : Nat} {B : Option Value → jg_H → Prop} {s : jg_H} 
    (k1 : q_W G (d + 1) jm_Reader_readTerm B 6 [some (.ref 117), some (.int 0)] [] s) :
    q_W G (d + 1) jm_Reader_readTerm B 4 [some (.ref 117), none] [] s := by
  refine q_iconst (pc' := 5) ja_Reader_readTerm_4 rfl 0 (by decide) ?_
  refine q_istore_n (pc' := 6) (ls' := [some (.ref 117), some (.int 0)]) ja_Reader_readTerm_5 rfl ⟨Nat.le_of_ble_eq_true rfl, rfl⟩ rfl ?_
  exact k1
set_option maxRecDepth 20000 in
theorem t_Reader_readTerm_6 {G : jv_X} {d : Nat} {B : Option Value → jg_H → Prop} {s : jg_H} (x1 : Int32)
    (k1 : ¬ x1 < 200 → B none s)
    (k2 : x1 < 200 → ¬ (s 117 4) = 42 → B none s)
    (k3 : x1 < 200 → (s 117 4) = 42 → q_P G (d + 1) 21 [.ref 117] s (fun v t => q_W G (d + 1) jm_Reader_readTerm B 26 [some (.ref 117), some (.int x1)] (v.toList ++ []) t)) :
    q_W G (d + 1) jm_Reader_readTerm B 6 [some (.ref 117), some (.int x1)] [] s := by
  refine q_iload_n (pc' := 7) ja_Reader_readTerm_6 rfl rfl ?_
  refine q_sipush (pc' := 10) ja_Reader_readTerm_7 rfl 200 (by decide) ?_
  refine q_ic_ge (pc' := 13) ja_Reader_readTerm_10 rfl ?_ ?_
  · intro h1
    exact q_vret ja_Reader_readTerm_45 rfl (k1 h1)
  · intro h2
    refine q_aload_n (pc' := 14) ja_Reader_readTerm_13 rfl rfl ?_
    refine q_getf (pc' := 17) (v := .int (s 117 4)) ja_Reader_readTerm_14 rfl (by decide) ⟨rfl, by decide⟩ rfl ?_
    refine q_bipush (pc' := 19) ja_Reader_readTerm_17 rfl 42 (by decide) ?_
    refine q_ic_ne (pc' := 22) ja_Reader_readTerm_19 rfl ?_ ?_
    · intro h3
      exact q_vret ja_Reader_readTerm_45 rfl (k2 h2 h3)
    · intro h4
      refine q_aload_n (pc' := 23) ja_Reader_readTerm_22 rfl rfl ?_
      refine q_virt (pc' := 26) (c := 117) (as := []) (r := []) ja_Reader_readTerm_23 rfl rfl rfl (by decide) ⟨rfl, by decide⟩ ?_
      exact (k3 h2 h4)
set_option maxRecDepth 20000 in
theorem t_Reader_readTerm_26 {G : jv_X} {d : Nat} {B : Option Value → jg_H → Prop} {s : jg_H} (x1 : Int32)
    (k1 : q_P G (d + 1) 36 [.ref 117] s (fun v t => q_W G (d + 1) jm_Reader_readTerm B 30 [some (.ref 117), some (.int x1)] (v.toList ++ []) t)) :
    q_W G (d + 1) jm_Reader_readTerm B 26 [some (.ref 117), some (.int x1)] [] s := by
  refine q_aload_n (pc' := 27) ja_Reader_readTerm_26 rfl rfl ?_
  refine q_virt (pc' := 30) (c := 117) (as := []) (r := []) ja_Reader_readTerm_27 rfl rfl rfl (by decide) ⟨rfl, by decide⟩ ?_
  exact k1
set_option maxRecDepth 20000 in
theorem t_Reader_readTerm_30 {G : jv_X} {d : Nat} {B : Option Value → jg_H → Prop} {s : jg_H} {T : Nat} (hT : f_9 T) (x1 : Int32)
    (k1 : s 117 8 = Int32.ofNat T)
    (k2 : (s T 1) < 0 → q_W G (d + 1) jm_Reader_readTerm B 6 [some (.ref 117), some (.int (x1 + 1))] [] s)
    (k3 : ¬ (s T 1) < 0 → (s T 1) < 200 → ∀ s1 : jg_H, s1 = jg_up s (T + 1) (s T 1).toNatClampNeg (-16) → ∀ s2 : jg_H, s2 = jg_up s1 T 1 ((s1 T 1) + 1) → q_W G (d + 1) jm_Reader_readTerm B 6 [some (.ref 117), some (.int (x1 + 1))] [] s2)
    (k4 : ¬ (s T 1) < 0 → ¬ (s T 1) < 200 → q_W G (d + 1) jm_Reader_readTerm B 6 [some (.ref 117), some (.int (x1 + 1))] [] s) :
    q_W G (d + 1) jm_Reader_readTerm B 30 [some (.ref 117), some (.int x1)] [] s := by
  refine q_aload_n (pc' := 31) ja_Reader_readTerm_30 rfl rfl ?_
  refine q_getf (pc' := 34) (v := .ref T) ja_Reader_readTerm_31 rfl (by decide) ⟨rfl, by decide⟩ (f_into hT k1) ?_
  refine q_bipush (pc' := 36) ja_Reader_readTerm_34 rfl (-16) (by decide) ?_
  refine q_virt (pc' := 39) (c := T) (as := [.int (-16)]) (r := []) ja_Reader_readTerm_36 rfl rfl rfl (f_9_c hT) ⟨by rw [f_9_k hT], by decide⟩ ?_
  refine q_in (M := jm_Text_add) rfl (Nat.le_of_ble_eq_true rfl) (ls := [some (.ref T), some (.int (-16))]) rfl ?_
  refine q_aload_n (pc' := 1) ja_Text_add_0 rfl rfl ?_
  refine q_getf (pc' := 4) (v := .int (s T 1)) ja_Text_add_1 rfl (f_9_c hT) ⟨by rw [f_9_k hT], by decide⟩ (f_i (f_9_k hT) rfl) ?_
  refine q_if_lt (pc' := 7) ja_Text_add_4 rfl ?_ ?_
  · intro h1
    refine q_vret ja_Text_add_19 rfl ?_
    show q_W _ _ _ _ 39 [some (.ref 117), some (.int x1)] [] s
    refine q_iinc (pc' := 42) (ls' := [some (.ref 117), some (.int (x1 + 1))]) ja_Reader_readTerm_39 rfl rfl (x1 + 1) rfl ⟨Nat.le_of_ble_eq_true rfl, rfl⟩ rfl ?_
    refine q_goto ja_Reader_readTerm_42 ?_
    exact (k2 h1)
  · intro h2
    refine q_aload_n (pc' := 8) ja_Text_add_7 rfl rfl ?_
    refine q_getf (pc' := 11) (v := .int (s T 1)) ja_Text_add_8 rfl (f_9_c hT) ⟨by rw [f_9_k hT], by decide⟩ (f_i (f_9_k hT) rfl) ?_
    refine q_aload_n (pc' := 12) ja_Text_add_11 rfl rfl ?_
    refine q_getf (pc' := 15) (v := .ref (T + 1)) ja_Text_add_12 rfl (f_9_c hT) ⟨by rw [f_9_k hT], by decide⟩ (f_9_g0 hT) ?_
    refine q_alen (pc' := 16) ja_Text_add_15 rfl (f_a_c (f_9_s0 hT)) (kd := 13) (l := 200) (f_a_k (f_9_s0 hT)) (by decide) (v := 200) (by decide) ?_
    refine q_ic_lt (pc' := 19) ja_Text_add_16 rfl ?_ ?_
    · intro h3
      refine q_aload_n (pc' := 21) ja_Text_add_20 rfl rfl ?_
      refine q_getf (pc' := 24) (v := .ref (T + 1)) ja_Text_add_21 rfl (f_9_c hT) ⟨by rw [f_9_k hT], by decide⟩ (f_9_g0 hT) ?_
      refine q_aload_n (pc' := 25) ja_Text_add_24 rfl rfl ?_
      refine q_getf (pc' := 28) (v := .int (s T 1)) ja_Text_add_25 rfl (f_9_c hT) ⟨by rw [f_9_k hT], by decide⟩ (f_i (f_9_k hT) rfl) ?_
      refine q_iload_n (pc' := 29) ja_Text_add_28 rfl rfl ?_
      refine q_iast (pc' := 30) ja_Text_add_29 rfl (f_a_c (f_9_s0 hT)) (l := 200) (f_a_k (f_9_s0 hT)) (q_inr (l := 200) (by decide) h2 h3) ?_
      intro s1 e1
      refine q_aload_n (pc' := 31) ja_Text_add_30 rfl rfl ?_
      refine q_dup (pc' := 32) ja_Text_add_31 rfl rfl ?_
      refine q_getf (pc' := 35) (v := .int (s1 T 1)) ja_Text_add_32 rfl (f_9_c hT) ⟨by rw [f_9_k hT], by decide⟩ (f_i (f_9_k hT) rfl) ?_
      refine q_iconst (pc' := 36) ja_Text_add_35 rfl 1 (by decide) ?_
      refine q_iadd (pc' := 37) ja_Text_add_36 rfl ?_
      refine q_putf (pc' := 40) ja_Text_add_37 rfl (f_9_c hT) (by rw [f_9_k hT]) rfl (by rw [f_9_k hT]; rfl) ?_
      intro s2 e2
      refine q_vret ja_Text_add_40 rfl ?_
      show q_W _ _ _ _ 39 [some (.ref 117), some (.int x1)] [] s2
      refine q_iinc (pc' := 42) (ls' := [some (.ref 117), some (.int (x1 + 1))]) ja_Reader_readTerm_39 rfl rfl (x1 + 1) rfl ⟨Nat.le_of_ble_eq_true rfl, rfl⟩ rfl ?_
      refine q_goto ja_Reader_readTerm_42 ?_
      exact (k3 h2 h3 s1 e1 s2 e2)
    · intro h4
      refine q_vret ja_Text_add_19 rfl ?_
      show q_W _ _ _ _ 39 [some (.ref 117), some (.int x1)] [] s
      refine q_iinc (pc' := 42) (ls' := [some (.ref 117), some (.int (x1 + 1))]) ja_Reader_readTerm_39 rfl rfl (x1 + 1) rfl ⟨Nat.le_of_ble_eq_true rfl, rfl⟩ rfl ?_
      refine q_goto ja_Reader_readTerm_42 ?_
      exact (k4 h2 h4)
set_option maxRecDepth 20000 in
theorem t_Reader_readWord {G : jv_X} {d : Nat} {B : Option Value → jg_H → Prop} {s : jg_H} 
    (k1 : q_W G (d + 2) jm_Reader_readWord B 0 [some (.ref 117), none] [] s) :
    q_P G (d + 3) 24 [.ref 117] s B := by
  refine q_in (M := jm_Reader_readWord) rfl (Nat.le_of_ble_eq_true rfl) (ls := [some (.ref 117), none]) rfl ?_
  exact k1
set_option maxRecDepth 20000 in
theorem t_Reader_readWord_0 {G : jv_X} {d : Nat} {B : Option Value → jg_H → Prop} {s : jg_H} 
    (k1 : ¬ (s 117 3) < (s 117 1) → q_W G (d + 2) jm_Reader_readWord B 51 [some (.ref 117), some (.int 0)] [] s)
    (k2 : (s 117 3) < (s 117 1) → ¬ ((s 117 3) - (s 117 2)) < 7 → q_W G (d + 2) jm_Reader_readWord B 51 [some (.ref 117), some (.int 0)] [] s)
    (k3 : (s 117 3) < (s 117 1) → ((s 117 3) - (s 117 2)) < 7 → (s 117 3) < 0 → q_W G (d + 2) jm_Reader_readWord B 51 [some (.ref 117), some (.int 0)] [] s)
    (k4 : (s 117 3) < (s 117 1) → ((s 117 3) - (s 117 2)) < 7 → ¬ (s 117 3) < 0 → ¬ (s 117 3) < 200 → q_W G (d + 2) jm_Reader_readWord B 51 [some (.ref 117), some (.int 0)] [] s)
    (k5 : (s 117 3) < (s 117 1) → ((s 117 3) - (s 117 2)) < 7 → ¬ (s 117 3) < 0 → (s 117 3) < 200 → (s 118 (s 117 3).toNatClampNeg) < 97 → q_W G (d + 2) jm_Reader_readWord B 51 [some (.ref 117), some (.int 0)] [] s)
    (k6 : (s 117 3) < (s 117 1) → ((s 117 3) - (s 117 2)) < 7 → ¬ (s 117 3) < 0 → (s 117 3) < 200 → ¬ (s 118 (s 117 3).toNatClampNeg) < 97 → ¬ (s 118 (s 117 3).toNatClampNeg) ≤ 122 → q_W G (d + 2) jm_Reader_readWord B 51 [some (.ref 117), some (.int 0)] [] s)
    (k7 : (s 117 3) < (s 117 1) → ((s 117 3) - (s 117 2)) < 7 → ¬ (s 117 3) < 0 → (s 117 3) < 200 → ¬ (s 118 (s 117 3).toNatClampNeg) < 97 → (s 118 (s 117 3).toNatClampNeg) ≤ 122 → ∀ s1 : jg_H, s1 = jg_up s 117 3 ((s 117 3) + 1) → q_W G (d + 2) jm_Reader_readWord B 0 [some (.ref 117), none] [] s1) :
    q_W G (d + 2) jm_Reader_readWord B 0 [some (.ref 117), none] [] s := by
  refine q_aload_n (pc' := 1) ja_Reader_readWord_0 rfl rfl ?_
  refine q_getf (pc' := 4) (v := .int (s 117 3)) ja_Reader_readWord_1 rfl (by decide) ⟨rfl, by decide⟩ rfl ?_
  refine q_aload_n (pc' := 5) ja_Reader_readWord_4 rfl rfl ?_
  refine q_getf (pc' := 8) (v := .int (s 117 1)) ja_Reader_readWord_5 rfl (by decide) ⟨rfl, by decide⟩ rfl ?_
  refine q_ic_ge (pc' := 11) ja_Reader_readWord_8 rfl ?_ ?_
  · intro h1
    refine q_iconst (pc' := 50) ja_Reader_readWord_49 rfl 0 (by decide) ?_
    refine q_istore_n (pc' := 51) (ls' := [some (.ref 117), some (.int 0)]) ja_Reader_readWord_50 rfl ⟨Nat.le_of_ble_eq_true rfl, rfl⟩ rfl ?_
    exact (k1 h1)
  · intro h2
    refine q_aload_n (pc' := 12) ja_Reader_readWord_11 rfl rfl ?_
    refine q_getf (pc' := 15) (v := .int (s 117 3)) ja_Reader_readWord_12 rfl (by decide) ⟨rfl, by decide⟩ rfl ?_
    refine q_aload_n (pc' := 16) ja_Reader_readWord_15 rfl rfl ?_
    refine q_getf (pc' := 19) (v := .int (s 117 2)) ja_Reader_readWord_16 rfl (by decide) ⟨rfl, by decide⟩ rfl ?_
    refine q_isub (pc' := 20) ja_Reader_readWord_19 rfl ?_
    refine q_bipush (pc' := 22) ja_Reader_readWord_20 rfl 7 (by decide) ?_
    refine q_ic_ge (pc' := 25) ja_Reader_readWord_22 rfl ?_ ?_
    · intro h3
      refine q_iconst (pc' := 50) ja_Reader_readWord_49 rfl 0 (by decide) ?_
      refine q_istore_n (pc' := 51) (ls' := [some (.ref 117), some (.int 0)]) ja_Reader_readWord_50 rfl ⟨Nat.le_of_ble_eq_true rfl, rfl⟩ rfl ?_
      exact (k2 h2 h3)
    · intro h4
      refine q_aload_n (pc' := 26) ja_Reader_readWord_25 rfl rfl ?_
      refine q_aload_n (pc' := 27) ja_Reader_readWord_26 rfl rfl ?_
      refine q_getf (pc' := 30) (v := .int (s 117 3)) ja_Reader_readWord_27 rfl (by decide) ⟨rfl, by decide⟩ rfl ?_
      refine q_virt (pc' := 33) (c := 117) (as := [.int (s 117 3)]) (r := []) ja_Reader_readWord_30 rfl rfl rfl (by decide) ⟨rfl, by decide⟩ ?_
      refine q_in (M := jm_Reader_isLetter) rfl (Nat.le_of_ble_eq_true rfl) (ls := [some (.ref 117), some (.int (s 117 3))]) rfl ?_
      refine q_aload_n (pc' := 1) ja_Reader_isLetter_0 rfl rfl ?_
      refine q_iload_n (pc' := 2) ja_Reader_isLetter_1 rfl rfl ?_
      refine q_virt (pc' := 5) (c := 117) (as := [.int (s 117 3)]) (r := []) ja_Reader_isLetter_2 rfl rfl rfl (by decide) ⟨rfl, by decide⟩ ?_
      refine q_in (M := jm_Reader_byteAt) rfl (Nat.le_of_ble_eq_true rfl) (ls := [some (.ref 117), some (.int (s 117 3))]) rfl ?_
      refine q_iload_n (pc' := 1) ja_Reader_byteAt_0 rfl rfl ?_
      refine q_if_lt (pc' := 4) ja_Reader_byteAt_1 rfl ?_ ?_
      · intro h5
        refine q_iconst (pc' := 31) ja_Reader_byteAt_30 rfl 0 (by decide) ?_
        refine q_iret ja_Reader_byteAt_31 rfl rfl ?_
        show q_W _ _ _ _ 5 [some (.ref 117), some (.int (s 117 3))] [.int 0] s
        refine q_bipush (pc' := 7) ja_Reader_isLetter_5 rfl 97 (by decide) ?_
        refine q_ic_lt (pc' := 10) ja_Reader_isLetter_7 rfl (fun _ => ?_) (fun h => absurd ((by decide : (0 : Int32) < 97)) h)
        refine q_iconst (pc' := 25) ja_Reader_isLetter_24 rfl 0 (by decide) ?_
        refine q_iret ja_Reader_isLetter_25 rfl (by decide) ?_
        show q_W _ _ _ _ 33 [some (.ref 117), none] [.int 0] s
        refine q_if_eq (pc' := 36) ja_Reader_readWord_33 rfl (fun _ => ?_) (fun h => absurd ((by decide : (0 : Int32) = 0)) h)
        refine q_iconst (pc' := 50) ja_Reader_readWord_49 rfl 0 (by decide) ?_
        refine q_istore_n (pc' := 51) (ls' := [some (.ref 117), some (.int 0)]) ja_Reader_readWord_50 rfl ⟨Nat.le_of_ble_eq_true rfl, rfl⟩ rfl ?_
        exact (k3 h2 h4 h5)
      · intro h6
        refine q_iload_n (pc' := 5) ja_Reader_byteAt_4 rfl rfl ?_
        refine q_aload_n (pc' := 6) ja_Reader_byteAt_5 rfl rfl ?_
        refine q_getf (pc' := 9) (v := .int (s 117 1)) ja_Reader_byteAt_6 rfl (by decide) ⟨rfl, by decide⟩ rfl ?_
        refine q_ic_ge (pc' := 12) ja_Reader_byteAt_9 rfl (fun h => absurd (h2) h) (fun _ => ?_)
        refine q_iload_n (pc' := 13) ja_Reader_byteAt_12 rfl rfl ?_
        refine q_aload_n (pc' := 14) ja_Reader_byteAt_13 rfl rfl ?_
        refine q_getf (pc' := 17) (v := .ref 118) ja_Reader_byteAt_14 rfl (by decide) ⟨rfl, by decide⟩ rfl ?_
        refine q_alen (pc' := 18) ja_Reader_byteAt_17 rfl (by decide) (kd := 13) (l := 200) rfl (by decide) (v := 200) (by decide) ?_
        refine q_ic_ge (pc' := 21) ja_Reader_byteAt_18 rfl ?_ ?_
        · intro h7
          refine q_iconst (pc' := 31) ja_Reader_byteAt_30 rfl 0 (by decide) ?_
          refine q_iret ja_Reader_byteAt_31 rfl rfl ?_
          show q_W _ _ _ _ 5 [some (.ref 117), some (.int (s 117 3))] [.int 0] s
          refine q_bipush (pc' := 7) ja_Reader_isLetter_5 rfl 97 (by decide) ?_
          refine q_ic_lt (pc' := 10) ja_Reader_isLetter_7 rfl (fun _ => ?_) (fun h => absurd ((by decide : (0 : Int32) < 97)) h)
          refine q_iconst (pc' := 25) ja_Reader_isLetter_24 rfl 0 (by decide) ?_
          refine q_iret ja_Reader_isLetter_25 rfl (by decide) ?_
          show q_W _ _ _ _ 33 [some (.ref 117), none] [.int 0] s
          refine q_if_eq (pc' := 36) ja_Reader_readWord_33 rfl (fun _ => ?_) (fun h => absurd ((by decide : (0 : Int32) = 0)) h)
          refine q_iconst (pc' := 50) ja_Reader_readWord_49 rfl 0 (by decide) ?_
          refine q_istore_n (pc' := 51) (ls' := [some (.ref 117), some (.int 0)]) ja_Reader_readWord_50 rfl ⟨Nat.le_of_ble_eq_true rfl, rfl⟩ rfl ?_
          exact (k4 h2 h4 h6 h7)
        · intro h8
          refine q_aload_n (pc' := 22) ja_Reader_byteAt_21 rfl rfl ?_
          refine q_getf (pc' := 25) (v := .ref 118) ja_Reader_byteAt_22 rfl (by decide) ⟨rfl, by decide⟩ rfl ?_
          refine q_iload_n (pc' := 26) ja_Reader_byteAt_25 rfl rfl ?_
          refine q_iald (pc' := 27) (v := .int (s 118 (s 117 3).toNatClampNeg)) ja_Reader_byteAt_26 rfl (by decide) (l := 200) rfl (q_inr (l := 200) (by decide) h6 h8) rfl ?_
          refine q_goto ja_Reader_byteAt_27 ?_
          refine q_iret ja_Reader_byteAt_31 rfl rfl ?_
          show q_W _ _ _ _ 5 [some (.ref 117), some (.int (s 117 3))] [.int (s 118 (s 117 3).toNatClampNeg)] s
          refine q_bipush (pc' := 7) ja_Reader_isLetter_5 rfl 97 (by decide) ?_
          refine q_ic_lt (pc' := 10) ja_Reader_isLetter_7 rfl ?_ ?_
          · intro h9
            refine q_iconst (pc' := 25) ja_Reader_isLetter_24 rfl 0 (by decide) ?_
            refine q_iret ja_Reader_isLetter_25 rfl (by decide) ?_
            show q_W _ _ _ _ 33 [some (.ref 117), none] [.int 0] s
            refine q_if_eq (pc' := 36) ja_Reader_readWord_33 rfl (fun _ => ?_) (fun h => absurd ((by decide : (0 : Int32) = 0)) h)
            refine q_iconst (pc' := 50) ja_Reader_readWord_49 rfl 0 (by decide) ?_
            refine q_istore_n (pc' := 51) (ls' := [some (.ref 117), some (.int 0)]) ja_Reader_readWord_50 rfl ⟨Nat.le_of_ble_eq_true rfl, rfl⟩ rfl ?_
            exact (k5 h2 h4 h6 h8 h9)
          · intro h10
            refine q_aload_n (pc' := 11) ja_Reader_isLetter_10 rfl rfl ?_
            refine q_iload_n (pc' := 12) ja_Reader_isLetter_11 rfl rfl ?_
            refine q_virt (pc' := 15) (c := 117) (as := [.int (s 117 3)]) (r := []) ja_Reader_isLetter_12 rfl rfl rfl (by decide) ⟨rfl, by decide⟩ ?_
            refine q_in (M := jm_Reader_byteAt) rfl (Nat.le_of_ble_eq_true rfl) (ls := [some (.ref 117), some (.int (s 117 3))]) rfl ?_
            refine q_iload_n (pc' := 1) ja_Reader_byteAt_0 rfl rfl ?_
            refine q_if_lt (pc' := 4) ja_Reader_byteAt_1 rfl (fun h => absurd h (h6)) (fun _ => ?_)
            refine q_iload_n (pc' := 5) ja_Reader_byteAt_4 rfl rfl ?_
            refine q_aload_n (pc' := 6) ja_Reader_byteAt_5 rfl rfl ?_
            refine q_getf (pc' := 9) (v := .int (s 117 1)) ja_Reader_byteAt_6 rfl (by decide) ⟨rfl, by decide⟩ rfl ?_
            refine q_ic_ge (pc' := 12) ja_Reader_byteAt_9 rfl (fun h => absurd (h2) h) (fun _ => ?_)
            refine q_iload_n (pc' := 13) ja_Reader_byteAt_12 rfl rfl ?_
            refine q_aload_n (pc' := 14) ja_Reader_byteAt_13 rfl rfl ?_
            refine q_getf (pc' := 17) (v := .ref 118) ja_Reader_byteAt_14 rfl (by decide) ⟨rfl, by decide⟩ rfl ?_
            refine q_alen (pc' := 18) ja_Reader_byteAt_17 rfl (by decide) (kd := 13) (l := 200) rfl (by decide) (v := 200) (by decide) ?_
            refine q_ic_ge (pc' := 21) ja_Reader_byteAt_18 rfl (fun h => absurd (h8) h) (fun _ => ?_)
            refine q_aload_n (pc' := 22) ja_Reader_byteAt_21 rfl rfl ?_
            refine q_getf (pc' := 25) (v := .ref 118) ja_Reader_byteAt_22 rfl (by decide) ⟨rfl, by decide⟩ rfl ?_
            refine q_iload_n (pc' := 26) ja_Reader_byteAt_25 rfl rfl ?_
            refine q_iald (pc' := 27) (v := .int (s 118 (s 117 3).toNatClampNeg)) ja_Reader_byteAt_26 rfl (by decide) (l := 200) rfl (q_inr (l := 200) (by decide) h6 h8) rfl ?_
            refine q_goto ja_Reader_byteAt_27 ?_
            refine q_iret ja_Reader_byteAt_31 rfl rfl ?_
            show q_W _ _ _ _ 15 [some (.ref 117), some (.int (s 117 3))] [.int (s 118 (s 117 3).toNatClampNeg)] s
            refine q_bipush (pc' := 17) ja_Reader_isLetter_15 rfl 122 (by decide) ?_
            refine q_ic_gt (pc' := 20) ja_Reader_isLetter_17 rfl ?_ ?_
            · intro h11
              refine q_iconst (pc' := 25) ja_Reader_isLetter_24 rfl 0 (by decide) ?_
              refine q_iret ja_Reader_isLetter_25 rfl (by decide) ?_
              show q_W _ _ _ _ 33 [some (.ref 117), none] [.int 0] s
              refine q_if_eq (pc' := 36) ja_Reader_readWord_33 rfl (fun _ => ?_) (fun h => absurd ((by decide : (0 : Int32) = 0)) h)
              refine q_iconst (pc' := 50) ja_Reader_readWord_49 rfl 0 (by decide) ?_
              refine q_istore_n (pc' := 51) (ls' := [some (.ref 117), some (.int 0)]) ja_Reader_readWord_50 rfl ⟨Nat.le_of_ble_eq_true rfl, rfl⟩ rfl ?_
              exact (k6 h2 h4 h6 h8 h10 h11)
            · intro h12
              refine q_iconst (pc' := 21) ja_Reader_isLetter_20 rfl 1 (by decide) ?_
              refine q_goto ja_Reader_isLetter_21 ?_
              refine q_iret ja_Reader_isLetter_25 rfl (by decide) ?_
              show q_W _ _ _ _ 33 [some (.ref 117), none] [.int 1] s
              refine q_if_eq (pc' := 36) ja_Reader_readWord_33 rfl (fun h => absurd h ((by decide : ¬ (1 : Int32) = 0))) (fun _ => ?_)
              refine q_aload_n (pc' := 37) ja_Reader_readWord_36 rfl rfl ?_
              refine q_dup (pc' := 38) ja_Reader_readWord_37 rfl rfl ?_
              refine q_getf (pc' := 41) (v := .int (s 117 3)) ja_Reader_readWord_38 rfl (by decide) ⟨rfl, by decide⟩ rfl ?_
              refine q_iconst (pc' := 42) ja_Reader_readWord_41 rfl 1 (by decide) ?_
              refine q_iadd (pc' := 43) ja_Reader_readWord_42 rfl ?_
              refine q_putf (pc' := 46) ja_Reader_readWord_43 rfl (by decide) rfl rfl rfl ?_
              intro s1 e1
              refine q_goto ja_Reader_readWord_46 ?_
              exact (k7 h2 h4 h6 h8 h10 h12 s1 e1)
set_option maxRecDepth 20000 in
theorem t_Reader_readWord_51 {G : jv_X} {d : Nat} {B : Option Value → jg_H → Prop} {s : jg_H} (x1 : Int32)
    (k1 : ¬ x1 < 15 → ¬ (s 117 7) = (-1) → ∀ s1 : jg_H, s1 = jg_up s 117 4 17 → B none s1)
    (k2 : ¬ x1 < 15 → (s 117 7) = (-1) → ∀ s2 : jg_H, s2 = jg_up s 117 7 (s 117 2) → ∀ s3 : jg_H, s3 = jg_up s2 117 4 17 → B none s3)
    (k3 : x1 < 15 → q_P G (d + 2) 25 [.ref 117, .int x1] s (fun v t => q_W G (d + 2) jm_Reader_readWord B 62 [some (.ref 117), some (.int x1)] (v.toList ++ []) t)) :
    q_W G (d + 2) jm_Reader_readWord B 51 [some (.ref 117), some (.int x1)] [] s := by
  refine q_iload_n (pc' := 52) ja_Reader_readWord_51 rfl rfl ?_
  refine q_bipush (pc' := 54) ja_Reader_readWord_52 rfl 15 (by decide) ?_
  refine q_ic_ge (pc' := 57) ja_Reader_readWord_54 rfl ?_ ?_
  · intro h1
    refine q_aload_n (pc' := 78) ja_Reader_readWord_77 rfl rfl ?_
    refine q_virt (pc' := 81) (c := 117) (as := []) (r := []) ja_Reader_readWord_78 rfl rfl rfl (by decide) ⟨rfl, by decide⟩ ?_
    refine q_in (M := jm_Reader_fail) rfl (Nat.le_of_ble_eq_true rfl) (ls := [some (.ref 117)]) rfl ?_
    refine q_aload_n (pc' := 1) ja_Reader_fail_0 rfl rfl ?_
    refine q_getf (pc' := 4) (v := .int (s 117 7)) ja_Reader_fail_1 rfl (by decide) ⟨rfl, by decide⟩ rfl ?_
    refine q_iconst (pc' := 5) ja_Reader_fail_4 rfl (-1) (by decide) ?_
    refine q_ic_ne (pc' := 8) ja_Reader_fail_5 rfl ?_ ?_
    · intro h2
      refine q_aload_n (pc' := 17) ja_Reader_fail_16 rfl rfl ?_
      refine q_bipush (pc' := 19) ja_Reader_fail_17 rfl 17 (by decide) ?_
      refine q_putf (pc' := 22) ja_Reader_fail_19 rfl (by decide) rfl rfl rfl ?_
      intro s1 e1
      refine q_vret ja_Reader_fail_22 rfl ?_
      show q_W _ _ _ _ 81 [some (.ref 117), some (.int x1)] [] s1
      exact q_vret ja_Reader_readWord_81 rfl (k1 h1 h2 s1 e1)
    · intro h3
      refine q_aload_n (pc' := 9) ja_Reader_fail_8 rfl rfl ?_
      refine q_aload_n (pc' := 10) ja_Reader_fail_9 rfl rfl ?_
      refine q_getf (pc' := 13) (v := .int (s 117 2)) ja_Reader_fail_10 rfl (by decide) ⟨rfl, by decide⟩ rfl ?_
      refine q_putf (pc' := 16) ja_Reader_fail_13 rfl (by decide) rfl rfl rfl ?_
      intro s2 e2
      refine q_aload_n (pc' := 17) ja_Reader_fail_16 rfl rfl ?_
      refine q_bipush (pc' := 19) ja_Reader_fail_17 rfl 17 (by decide) ?_
      refine q_putf (pc' := 22) ja_Reader_fail_19 rfl (by decide) rfl rfl rfl ?_
      intro s3 e3
      refine q_vret ja_Reader_fail_22 rfl ?_
      show q_W _ _ _ _ 81 [some (.ref 117), some (.int x1)] [] s3
      exact q_vret ja_Reader_readWord_81 rfl (k2 h1 h3 s2 e2 s3 e3)
  · intro h4
    refine q_aload_n (pc' := 58) ja_Reader_readWord_57 rfl rfl ?_
    refine q_iload_n (pc' := 59) ja_Reader_readWord_58 rfl rfl ?_
    refine q_virt (pc' := 62) (c := 117) (as := [.int x1]) (r := []) ja_Reader_readWord_59 rfl rfl rfl (by decide) ⟨rfl, by decide⟩ ?_
    exact (k3 h4)
set_option maxRecDepth 20000 in
theorem t_Reader_readWord_62 {G : jv_X} {d : Nat} {B : Option Value → jg_H → Prop} {s : jg_H} (x1 : Int32) (y0 : Int32)
    (k1 : y0 = 0 → q_W G (d + 2) jm_Reader_readWord B 51 [some (.ref 117), some (.int (x1 + 1))] [] s)
    (k2 : ¬ y0 = 0 → ∀ s1 : jg_H, s1 = jg_up s 117 4 x1 → B none s1) :
    q_W G (d + 2) jm_Reader_readWord B 62 [some (.ref 117), some (.int x1)] [.int y0] s := by
  refine q_if_eq (pc' := 65) ja_Reader_readWord_62 rfl ?_ ?_
  · intro h1
    refine q_iinc (pc' := 74) (ls' := [some (.ref 117), some (.int (x1 + 1))]) ja_Reader_readWord_71 rfl rfl (x1 + 1) rfl ⟨Nat.le_of_ble_eq_true rfl, rfl⟩ rfl ?_
    refine q_goto ja_Reader_readWord_74 ?_
    exact (k1 h1)
  · intro h2
    refine q_aload_n (pc' := 66) ja_Reader_readWord_65 rfl rfl ?_
    refine q_iload_n (pc' := 67) ja_Reader_readWord_66 rfl rfl ?_
    refine q_putf (pc' := 70) ja_Reader_readWord_67 rfl (by decide) rfl rfl rfl ?_
    intro s1 e1
    exact q_vret ja_Reader_readWord_70 rfl (k2 h2 s1 e1)
set_option maxRecDepth 20000 in
theorem t_Sections_canChange {G : jv_X} {d : Nat} {B : Option Value → jg_H → Prop} {s : jg_H} {c0 : Nat} (hc0 : f_8 c0) (a1 : Int32) (a2 : Int32)
    (k1 : a2 < 0 → B (some (.int 0)) s)
    (k2 : ¬ a2 < 0 → ¬ a1 = 2 → ¬ a2 < (s c0 0) → B (some (.int 0)) s)
    (k3 : ¬ a2 < 0 → ¬ a1 = 2 → a2 < (s c0 0) → B (some (.int 1)) s)
    (k4 : ¬ a2 < 0 → a1 = 2 → ¬ a2 ≤ (s c0 0) → B (some (.int 0)) s)
    (k5 : ¬ a2 < 0 → a1 = 2 → a2 ≤ (s c0 0) → ¬ (s c0 0) < 10 → B (some (.int 0)) s)
    (k6 : ¬ a2 < 0 → a1 = 2 → a2 ≤ (s c0 0) → (s c0 0) < 10 → B (some (.int 1)) s) :
    q_P G (d + 1) 55 [.ref c0, .int a1, .int a2] s B := by
  refine q_in (M := jm_Sections_canChange) rfl (Nat.le_of_ble_eq_true rfl) (ls := [some (.ref c0), some (.int a1), some (.int a2)]) rfl ?_
  refine q_iload_n (pc' := 1) ja_Sections_canChange_0 rfl rfl ?_
  refine q_if_lt (pc' := 4) ja_Sections_canChange_1 rfl ?_ ?_
  · intro h1
    refine q_iconst (pc' := 45) ja_Sections_canChange_44 rfl 0 (by decide) ?_
    exact q_iret ja_Sections_canChange_45 rfl (by decide) (k1 h1)
  · intro h2
    refine q_iload_n (pc' := 5) ja_Sections_canChange_4 rfl rfl ?_
    refine q_iconst (pc' := 6) ja_Sections_canChange_5 rfl 2 (by decide) ?_
    refine q_ic_ne (pc' := 9) ja_Sections_canChange_6 rfl ?_ ?_
    · intro h3
      refine q_iload_n (pc' := 33) ja_Sections_canChange_32 rfl rfl ?_
      refine q_aload_n (pc' := 34) ja_Sections_canChange_33 rfl rfl ?_
      refine q_getf (pc' := 37) (v := .int (s c0 0)) ja_Sections_canChange_34 rfl (f_8_c hc0) ⟨by rw [f_8_k hc0], by decide⟩ (f_i (f_8_k hc0) rfl) ?_
      refine q_ic_ge (pc' := 40) ja_Sections_canChange_37 rfl ?_ ?_
      · intro h4
        refine q_iconst (pc' := 45) ja_Sections_canChange_44 rfl 0 (by decide) ?_
        exact q_iret ja_Sections_canChange_45 rfl (by decide) (k2 h2 h3 h4)
      · intro h5
        refine q_iconst (pc' := 41) ja_Sections_canChange_40 rfl 1 (by decide) ?_
        refine q_goto ja_Sections_canChange_41 ?_
        exact q_iret ja_Sections_canChange_45 rfl (by decide) (k3 h2 h3 h5)
    · intro h6
      refine q_iload_n (pc' := 10) ja_Sections_canChange_9 rfl rfl ?_
      refine q_aload_n (pc' := 11) ja_Sections_canChange_10 rfl rfl ?_
      refine q_getf (pc' := 14) (v := .int (s c0 0)) ja_Sections_canChange_11 rfl (f_8_c hc0) ⟨by rw [f_8_k hc0], by decide⟩ (f_i (f_8_k hc0) rfl) ?_
      refine q_ic_gt (pc' := 17) ja_Sections_canChange_14 rfl ?_ ?_
      · intro h7
        refine q_iconst (pc' := 45) ja_Sections_canChange_44 rfl 0 (by decide) ?_
        exact q_iret ja_Sections_canChange_45 rfl (by decide) (k4 h2 h6 h7)
      · intro h8
        refine q_aload_n (pc' := 18) ja_Sections_canChange_17 rfl rfl ?_
        refine q_getf (pc' := 21) (v := .int (s c0 0)) ja_Sections_canChange_18 rfl (f_8_c hc0) ⟨by rw [f_8_k hc0], by decide⟩ (f_i (f_8_k hc0) rfl) ?_
        refine q_aload_n (pc' := 22) ja_Sections_canChange_21 rfl rfl ?_
        refine q_getf (pc' := 25) (v := .ref (c0 + 1)) ja_Sections_canChange_22 rfl (f_8_c hc0) ⟨by rw [f_8_k hc0], by decide⟩ (f_8_g1 hc0) ?_
        refine q_alen (pc' := 26) ja_Sections_canChange_25 rfl (f_a_c (f_8_s1 hc0)) (kd := 13) (l := 10) (f_a_k (f_8_s1 hc0)) (by decide) (v := 10) (by decide) ?_
        refine q_ic_ge (pc' := 29) ja_Sections_canChange_26 rfl ?_ ?_
        · intro h9
          refine q_iconst (pc' := 45) ja_Sections_canChange_44 rfl 0 (by decide) ?_
          exact q_iret ja_Sections_canChange_45 rfl (by decide) (k5 h2 h6 h8 h9)
        · intro h10
          refine q_goto ja_Sections_canChange_29 ?_
          refine q_iconst (pc' := 41) ja_Sections_canChange_40 rfl 1 (by decide) ?_
          refine q_goto ja_Sections_canChange_41 ?_
          exact q_iret ja_Sections_canChange_45 rfl (by decide) (k6 h2 h6 h8 h10)
set_option maxRecDepth 20000 in
theorem t_Sections_change {G : jv_X} {d : Nat} {B : Option Value → jg_H → Prop} {s : jg_H} {c0 : Nat} (hc0 : f_8 c0) (a1 : Int32) (a2 : Int32) (a3 : Int32)
    (k1 : a2 < 0 → B (some (.int 0)) s)
    (k2 : ¬ a2 < 0 → ¬ a1 = 2 → ¬ a2 < (s c0 0) → B (some (.int 0)) s)
    (k3 : ¬ a2 < 0 → ¬ a1 = 2 → a2 < (s c0 0) → ¬ a1 = 1 → ¬ a2 < 10 → B (some (.int 1)) s)
    (k4 : ¬ a2 < 0 → ¬ a1 = 2 → a2 < (s c0 0) → ¬ a1 = 1 → a2 < 10 → ∀ s1 : jg_H, s1 = jg_up s (c0 + 1) a2.toNatClampNeg a3 → B (some (.int 1)) s1)
    (k5 : ¬ a2 < 0 → ¬ a1 = 2 → a2 < (s c0 0) → a1 = 1 → q_P G (d + 1) 57 [.ref c0, .int a2] s (fun v t => q_W G (d + 1) jm_Sections_change B 35 [some (.ref c0), some (.int a1), some (.int a2), some (.int a3)] (v.toList ++ []) t))
    (k6 : ¬ a2 < 0 → a1 = 2 → ¬ a2 ≤ (s c0 0) → B (some (.int 0)) s)
    (k7 : ¬ a2 < 0 → a1 = 2 → a2 ≤ (s c0 0) → ¬ (s c0 0) < 10 → B (some (.int 0)) s)
    (k8 : ¬ a2 < 0 → a1 = 2 → a2 ≤ (s c0 0) → (s c0 0) < 10 → q_P G (d + 1) 56 [.ref c0, .int a2, .int a3] s (fun v t => q_W G (d + 1) jm_Sections_change B 22 [some (.ref c0), some (.int a1), some (.int a2), some (.int a3)] (v.toList ++ []) t)) :
    q_P G (d + 2) 54 [.ref c0, .int a1, .int a2, .int a3] s B := by
  refine q_in (M := jm_Sections_change) rfl (Nat.le_of_ble_eq_true rfl) (ls := [some (.ref c0), some (.int a1), some (.int a2), some (.int a3)]) rfl ?_
  refine q_aload_n (pc' := 1) ja_Sections_change_0 rfl rfl ?_
  refine q_iload_n (pc' := 2) ja_Sections_change_1 rfl rfl ?_
  refine q_iload_n (pc' := 3) ja_Sections_change_2 rfl rfl ?_
  refine q_virt (pc' := 6) (c := c0) (as := [.int a1, .int a2]) (r := []) ja_Sections_change_3 rfl rfl rfl (f_8_c hc0) ⟨by rw [f_8_k hc0], by decide⟩ ?_
  refine q_in (M := jm_Sections_canChange) rfl (Nat.le_of_ble_eq_true rfl) (ls := [some (.ref c0), some (.int a1), some (.int a2)]) rfl ?_
  refine q_iload_n (pc' := 1) ja_Sections_canChange_0 rfl rfl ?_
  refine q_if_lt (pc' := 4) ja_Sections_canChange_1 rfl ?_ ?_
  · intro h1
    refine q_iconst (pc' := 45) ja_Sections_canChange_44 rfl 0 (by decide) ?_
    refine q_iret ja_Sections_canChange_45 rfl (by decide) ?_
    show q_W _ _ _ _ 6 [some (.ref c0), some (.int a1), some (.int a2), some (.int a3)] [.int 0] s
    refine q_if_ne (pc' := 9) ja_Sections_change_6 rfl (fun h => absurd ((by decide : (0 : Int32) = 0)) h) (fun _ => ?_)
    refine q_iconst (pc' := 10) ja_Sections_change_9 rfl 0 (by decide) ?_
    exact q_iret ja_Sections_change_10 rfl (by decide) (k1 h1)
  · intro h2
    refine q_iload_n (pc' := 5) ja_Sections_canChange_4 rfl rfl ?_
    refine q_iconst (pc' := 6) ja_Sections_canChange_5 rfl 2 (by decide) ?_
    refine q_ic_ne (pc' := 9) ja_Sections_canChange_6 rfl ?_ ?_
    · intro h3
      refine q_iload_n (pc' := 33) ja_Sections_canChange_32 rfl rfl ?_
      refine q_aload_n (pc' := 34) ja_Sections_canChange_33 rfl rfl ?_
      refine q_getf (pc' := 37) (v := .int (s c0 0)) ja_Sections_canChange_34 rfl (f_8_c hc0) ⟨by rw [f_8_k hc0], by decide⟩ (f_i (f_8_k hc0) rfl) ?_
      refine q_ic_ge (pc' := 40) ja_Sections_canChange_37 rfl ?_ ?_
      · intro h4
        refine q_iconst (pc' := 45) ja_Sections_canChange_44 rfl 0 (by decide) ?_
        refine q_iret ja_Sections_canChange_45 rfl (by decide) ?_
        show q_W _ _ _ _ 6 [some (.ref c0), some (.int a1), some (.int a2), some (.int a3)] [.int 0] s
        refine q_if_ne (pc' := 9) ja_Sections_change_6 rfl (fun h => absurd ((by decide : (0 : Int32) = 0)) h) (fun _ => ?_)
        refine q_iconst (pc' := 10) ja_Sections_change_9 rfl 0 (by decide) ?_
        exact q_iret ja_Sections_change_10 rfl (by decide) (k2 h2 h3 h4)
      · intro h5
        refine q_iconst (pc' := 41) ja_Sections_canChange_40 rfl 1 (by decide) ?_
        refine q_goto ja_Sections_canChange_41 ?_
        refine q_iret ja_Sections_canChange_45 rfl (by decide) ?_
        show q_W _ _ _ _ 6 [some (.ref c0), some (.int a1), some (.int a2), some (.int a3)] [.int 1] s
        refine q_if_ne (pc' := 9) ja_Sections_change_6 rfl (fun _ => ?_) (fun h => absurd h ((by decide : ¬ (1 : Int32) = 0)))
        refine q_iload_n (pc' := 12) ja_Sections_change_11 rfl rfl ?_
        refine q_iconst (pc' := 13) ja_Sections_change_12 rfl 2 (by decide) ?_
        refine q_ic_ne (pc' := 16) ja_Sections_change_13 rfl (fun _ => ?_) (fun h => absurd h (h3))
        refine q_iload_n (pc' := 26) ja_Sections_change_25 rfl rfl ?_
        refine q_iconst (pc' := 27) ja_Sections_change_26 rfl 1 (by decide) ?_
        refine q_ic_ne (pc' := 30) ja_Sections_change_27 rfl ?_ ?_
        · intro h6
          refine q_iload_n (pc' := 39) ja_Sections_change_38 rfl rfl ?_
          refine q_aload_n (pc' := 40) ja_Sections_change_39 rfl rfl ?_
          refine q_getf (pc' := 43) (v := .ref (c0 + 1)) ja_Sections_change_40 rfl (f_8_c hc0) ⟨by rw [f_8_k hc0], by decide⟩ (f_8_g1 hc0) ?_
          refine q_alen (pc' := 44) ja_Sections_change_43 rfl (f_a_c (f_8_s1 hc0)) (kd := 13) (l := 10) (f_a_k (f_8_s1 hc0)) (by decide) (v := 10) (by decide) ?_
          refine q_ic_ge (pc' := 47) ja_Sections_change_44 rfl ?_ ?_
          · intro h7
            refine q_iconst (pc' := 55) ja_Sections_change_54 rfl 1 (by decide) ?_
            exact q_iret ja_Sections_change_55 rfl (by decide) (k3 h2 h3 h5 h6 h7)
          · intro h8
            refine q_aload_n (pc' := 48) ja_Sections_change_47 rfl rfl ?_
            refine q_getf (pc' := 51) (v := .ref (c0 + 1)) ja_Sections_change_48 rfl (f_8_c hc0) ⟨by rw [f_8_k hc0], by decide⟩ (f_8_g1 hc0) ?_
            refine q_iload_n (pc' := 52) ja_Sections_change_51 rfl rfl ?_
            refine q_iload_n (pc' := 53) ja_Sections_change_52 rfl rfl ?_
            refine q_iast (pc' := 54) ja_Sections_change_53 rfl (f_a_c (f_8_s1 hc0)) (l := 10) (f_a_k (f_8_s1 hc0)) (q_inr (l := 10) (by decide) h2 h8) ?_
            intro s1 e1
            refine q_iconst (pc' := 55) ja_Sections_change_54 rfl 1 (by decide) ?_
            exact q_iret ja_Sections_change_55 rfl (by decide) (k4 h2 h3 h5 h6 h8 s1 e1)
        · intro h9
          refine q_aload_n (pc' := 31) ja_Sections_change_30 rfl rfl ?_
          refine q_iload_n (pc' := 32) ja_Sections_change_31 rfl rfl ?_
          refine q_virt (pc' := 35) (c := c0) (as := [.int a2]) (r := []) ja_Sections_change_32 rfl rfl rfl (f_8_c hc0) ⟨by rw [f_8_k hc0], by decide⟩ ?_
          exact (k5 h2 h3 h5 h9)
    · intro h10
      refine q_iload_n (pc' := 10) ja_Sections_canChange_9 rfl rfl ?_
      refine q_aload_n (pc' := 11) ja_Sections_canChange_10 rfl rfl ?_
      refine q_getf (pc' := 14) (v := .int (s c0 0)) ja_Sections_canChange_11 rfl (f_8_c hc0) ⟨by rw [f_8_k hc0], by decide⟩ (f_i (f_8_k hc0) rfl) ?_
      refine q_ic_gt (pc' := 17) ja_Sections_canChange_14 rfl ?_ ?_
      · intro h11
        refine q_iconst (pc' := 45) ja_Sections_canChange_44 rfl 0 (by decide) ?_
        refine q_iret ja_Sections_canChange_45 rfl (by decide) ?_
        show q_W _ _ _ _ 6 [some (.ref c0), some (.int a1), some (.int a2), some (.int a3)] [.int 0] s
        refine q_if_ne (pc' := 9) ja_Sections_change_6 rfl (fun h => absurd ((by decide : (0 : Int32) = 0)) h) (fun _ => ?_)
        refine q_iconst (pc' := 10) ja_Sections_change_9 rfl 0 (by decide) ?_
        exact q_iret ja_Sections_change_10 rfl (by decide) (k6 h2 h10 h11)
      · intro h12
        refine q_aload_n (pc' := 18) ja_Sections_canChange_17 rfl rfl ?_
        refine q_getf (pc' := 21) (v := .int (s c0 0)) ja_Sections_canChange_18 rfl (f_8_c hc0) ⟨by rw [f_8_k hc0], by decide⟩ (f_i (f_8_k hc0) rfl) ?_
        refine q_aload_n (pc' := 22) ja_Sections_canChange_21 rfl rfl ?_
        refine q_getf (pc' := 25) (v := .ref (c0 + 1)) ja_Sections_canChange_22 rfl (f_8_c hc0) ⟨by rw [f_8_k hc0], by decide⟩ (f_8_g1 hc0) ?_
        refine q_alen (pc' := 26) ja_Sections_canChange_25 rfl (f_a_c (f_8_s1 hc0)) (kd := 13) (l := 10) (f_a_k (f_8_s1 hc0)) (by decide) (v := 10) (by decide) ?_
        refine q_ic_ge (pc' := 29) ja_Sections_canChange_26 rfl ?_ ?_
        · intro h13
          refine q_iconst (pc' := 45) ja_Sections_canChange_44 rfl 0 (by decide) ?_
          refine q_iret ja_Sections_canChange_45 rfl (by decide) ?_
          show q_W _ _ _ _ 6 [some (.ref c0), some (.int a1), some (.int a2), some (.int a3)] [.int 0] s
          refine q_if_ne (pc' := 9) ja_Sections_change_6 rfl (fun h => absurd ((by decide : (0 : Int32) = 0)) h) (fun _ => ?_)
          refine q_iconst (pc' := 10) ja_Sections_change_9 rfl 0 (by decide) ?_
          exact q_iret ja_Sections_change_10 rfl (by decide) (k7 h2 h10 h12 h13)
        · intro h14
          refine q_goto ja_Sections_canChange_29 ?_
          refine q_iconst (pc' := 41) ja_Sections_canChange_40 rfl 1 (by decide) ?_
          refine q_goto ja_Sections_canChange_41 ?_
          refine q_iret ja_Sections_canChange_45 rfl (by decide) ?_
          show q_W _ _ _ _ 6 [some (.ref c0), some (.int a1), some (.int a2), some (.int a3)] [.int 1] s
          refine q_if_ne (pc' := 9) ja_Sections_change_6 rfl (fun _ => ?_) (fun h => absurd h ((by decide : ¬ (1 : Int32) = 0)))
          refine q_iload_n (pc' := 12) ja_Sections_change_11 rfl rfl ?_
          refine q_iconst (pc' := 13) ja_Sections_change_12 rfl 2 (by decide) ?_
          refine q_ic_ne (pc' := 16) ja_Sections_change_13 rfl (fun h => absurd (h10) h) (fun _ => ?_)
          refine q_aload_n (pc' := 17) ja_Sections_change_16 rfl rfl ?_
          refine q_iload_n (pc' := 18) ja_Sections_change_17 rfl rfl ?_
          refine q_iload_n (pc' := 19) ja_Sections_change_18 rfl rfl ?_
          refine q_virt (pc' := 22) (c := c0) (as := [.int a2, .int a3]) (r := []) ja_Sections_change_19 rfl rfl rfl (f_8_c hc0) ⟨by rw [f_8_k hc0], by decide⟩ ?_
          exact (k8 h2 h10 h12 h14)
set_option maxRecDepth 20000 in
theorem t_Sections_change_22 {G : jv_X} {d : Nat} {B : Option Value → jg_H → Prop} {s : jg_H} {x0 : Nat} (hx0 : f_8 x0) (x1 : Int32) (x2 : Int32) (x3 : Int32)
    (k1 : B (some (.int 1)) s) :
    q_W G (d + 1) jm_Sections_change B 22 [some (.ref x0), some (.int x1), some (.int x2), some (.int x3)] [] s := by
  refine q_goto ja_Sections_change_22 ?_
  refine q_iconst (pc' := 55) ja_Sections_change_54 rfl 1 (by decide) ?_
  exact q_iret ja_Sections_change_55 rfl (by decide) k1
set_option maxRecDepth 20000 in
theorem t_Sections_change_35 {G : jv_X} {d : Nat} {B : Option Value → jg_H → Prop} {s : jg_H} {x0 : Nat} (hx0 : f_8 x0) (x1 : Int32) (x2 : Int32) (x3 : Int32)
    (k1 : B (some (.int 1)) s) :
    q_W G (d + 1) jm_Sections_change B 35 [some (.ref x0), some (.int x1), some (.int x2), some (.int x3)] [] s := by
  refine q_goto ja_Sections_change_35 ?_
  refine q_iconst (pc' := 55) ja_Sections_change_54 rfl 1 (by decide) ?_
  exact q_iret ja_Sections_change_55 rfl (by decide) k1
set_option maxRecDepth 20000 in
theorem t_Sections_copyFrom {G : jv_X} {d : Nat} {B : Option Value → jg_H → Prop} {s : jg_H} {c0 : Nat} (hc0 : f_8 c0) {c1 : Nat} (hc1 : f_8 c1)
    (k1 : ∀ s1 : jg_H, s1 = jg_up s c0 0 (s c1 0) → q_W G d jm_Sections_copyFrom B 10 [some (.ref c0), some (.ref c1), some (.int 0)] [] s1) :
    q_P G (d + 1) 110 [.ref c0, .ref c1] s B := by
  refine q_in (M := jm_Sections_copyFrom) rfl (Nat.le_of_ble_eq_true rfl) (ls := [some (.ref c0), some (.ref c1), none]) rfl ?_
  refine q_aload_n (pc' := 1) ja_Sections_copyFrom_0 rfl rfl ?_
  refine q_aload_n (pc' := 2) ja_Sections_copyFrom_1 rfl rfl ?_
  refine q_getf (pc' := 5) (v := .int (s c1 0)) ja_Sections_copyFrom_2 rfl (f_8_c hc1) ⟨by rw [f_8_k hc1], by decide⟩ (f_i (f_8_k hc1) rfl) ?_
  refine q_putf (pc' := 8) ja_Sections_copyFrom_5 rfl (f_8_c hc0) (by rw [f_8_k hc0]) rfl (by rw [f_8_k hc0]; rfl) ?_
  intro s1 e1
  refine q_iconst (pc' := 9) ja_Sections_copyFrom_8 rfl 0 (by decide) ?_
  refine q_istore_n (pc' := 10) (ls' := [some (.ref c0), some (.ref c1), some (.int 0)]) ja_Sections_copyFrom_9 rfl ⟨Nat.le_of_ble_eq_true rfl, rfl⟩ rfl ?_
  exact (k1 s1 e1)
set_option maxRecDepth 20000 in
theorem t_Sections_copyFrom_10 {G : jv_X} {d : Nat} {B : Option Value → jg_H → Prop} {s : jg_H} {x0 : Nat} (hx0 : f_8 x0) {x1 : Nat} (hx1 : f_8 x1) (x2 : Int32)
    (k1 : ¬ x2 < (s x0 0) → B none s)
    (k2 : x2 < (s x0 0) → ¬ x2 < 10 → B none s)
    (k3 : x2 < (s x0 0) → x2 < 10 → jv_in x2 10 = true)
    (k4 : x2 < (s x0 0) → x2 < 10 → jv_in x2 10 = true)
    (k5 : x2 < (s x0 0) → x2 < 10 → ∀ s1 : jg_H, s1 = jg_up s (x0 + 1) x2.toNatClampNeg (s (x1 + 1) x2.toNatClampNeg) → q_W G d jm_Sections_copyFrom B 10 [some (.ref x0), some (.ref x1), some (.int (x2 + 1))] [] s1) :
    q_W G d jm_Sections_copyFrom B 10 [some (.ref x0), some (.ref x1), some (.int x2)] [] s := by
  refine q_iload_n (pc' := 11) ja_Sections_copyFrom_10 rfl rfl ?_
  refine q_aload_n (pc' := 12) ja_Sections_copyFrom_11 rfl rfl ?_
  refine q_getf (pc' := 15) (v := .int (s x0 0)) ja_Sections_copyFrom_12 rfl (f_8_c hx0) ⟨by rw [f_8_k hx0], by decide⟩ (f_i (f_8_k hx0) rfl) ?_
  refine q_ic_ge (pc' := 18) ja_Sections_copyFrom_15 rfl ?_ ?_
  · intro h1
    exact q_vret ja_Sections_copyFrom_45 rfl (k1 h1)
  · intro h2
    refine q_iload_n (pc' := 19) ja_Sections_copyFrom_18 rfl rfl ?_
    refine q_aload_n (pc' := 20) ja_Sections_copyFrom_19 rfl rfl ?_
    refine q_getf (pc' := 23) (v := .ref (x0 + 1)) ja_Sections_copyFrom_20 rfl (f_8_c hx0) ⟨by rw [f_8_k hx0], by decide⟩ (f_8_g1 hx0) ?_
    refine q_alen (pc' := 24) ja_Sections_copyFrom_23 rfl (f_a_c (f_8_s1 hx0)) (kd := 13) (l := 10) (f_a_k (f_8_s1 hx0)) (by decide) (v := 10) (by decide) ?_
    refine q_ic_ge (pc' := 27) ja_Sections_copyFrom_24 rfl ?_ ?_
    · intro h3
      exact q_vret ja_Sections_copyFrom_45 rfl (k2 h2 h3)
    · intro h4
      refine q_aload_n (pc' := 28) ja_Sections_copyFrom_27 rfl rfl ?_
      refine q_getf (pc' := 31) (v := .ref (x0 + 1)) ja_Sections_copyFrom_28 rfl (f_8_c hx0) ⟨by rw [f_8_k hx0], by decide⟩ (f_8_g1 hx0) ?_
      refine q_iload_n (pc' := 32) ja_Sections_copyFrom_31 rfl rfl ?_
      refine q_aload_n (pc' := 33) ja_Sections_copyFrom_32 rfl rfl ?_
      refine q_getf (pc' := 36) (v := .ref (x1 + 1)) ja_Sections_copyFrom_33 rfl (f_8_c hx1) ⟨by rw [f_8_k hx1], by decide⟩ (f_8_g1 hx1) ?_
      refine q_iload_n (pc' := 37) ja_Sections_copyFrom_36 rfl rfl ?_
      refine q_iald (pc' := 38) (v := .int (s (x1 + 1) x2.toNatClampNeg)) ja_Sections_copyFrom_37 rfl (f_a_c (f_8_s1 hx1)) (l := 10) (f_a_k (f_8_s1 hx1)) (k3 h2 h4) (f_i (f_a_k (f_8_s1 hx1)) rfl) ?_
      refine q_iast (pc' := 39) ja_Sections_copyFrom_38 rfl (f_a_c (f_8_s1 hx0)) (l := 10) (f_a_k (f_8_s1 hx0)) (k4 h2 h4) ?_
      intro s1 e1
      refine q_iinc (pc' := 42) (ls' := [some (.ref x0), some (.ref x1), some (.int (x2 + 1))]) ja_Sections_copyFrom_39 rfl rfl (x2 + 1) rfl ⟨Nat.le_of_ble_eq_true rfl, rfl⟩ rfl ?_
      refine q_goto ja_Sections_copyFrom_42 ?_
      exact (k5 h2 h4 s1 e1)
set_option maxRecDepth 20000 in
theorem t_Sections_gain {G : jv_X} {d : Nat} {B : Option Value → jg_H → Prop} {s : jg_H} {c0 : Nat} (hc0 : f_8 c0) {c1 : Nat} (hc1 : f_5 c1) (a2 : Int32) (a3 : Int32) (a4 : Int32)
    (k1 : a3 < 0 → B (some (.int 0)) s)
    (k2 : ¬ a3 < 0 → ¬ a2 = 2 → ¬ a3 < (s c0 0) → B (some (.int 0)) s)
    (k3 : ¬ a3 < 0 → ¬ a2 = 2 → a3 < (s c0 0) → ¬ a2 = 1 → a4 < 0 → ¬ a3 < 10 → B (some (.int 0)) s)
    (k4 : ¬ a3 < 0 → ¬ a2 = 2 → a3 < (s c0 0) → ¬ a2 = 1 → a4 < 0 → a3 < 10 → (s (c0 + 1) a3.toNatClampNeg) < 0 → B (some (.int 0)) s)
    (k5 : ¬ a3 < 0 → ¬ a2 = 2 → a3 < (s c0 0) → ¬ a2 = 1 → a4 < 0 → a3 < 10 → ¬ (s (c0 + 1) a3.toNatClampNeg) < 0 → ¬ (s (c0 + 1) a3.toNatClampNeg) < 61 → B (some (.int 0)) s)
    (k6 : ¬ a3 < 0 → ¬ a2 = 2 → a3 < (s c0 0) → ¬ a2 = 1 → a4 < 0 → a3 < 10 → ¬ (s (c0 + 1) a3.toNatClampNeg) < 0 → (s (c0 + 1) a3.toNatClampNeg) < 61 → B (some (.int (0 - (s (c1 + 1) (s (c0 + 1) a3.toNatClampNeg).toNatClampNeg)))) s)
    (k7 : ¬ a3 < 0 → ¬ a2 = 2 → a3 < (s c0 0) → ¬ a2 = 1 → ¬ a4 < 0 → ¬ a4 < 61 → ¬ a3 < 10 → B (some (.int 0)) s)
    (k8 : ¬ a3 < 0 → ¬ a2 = 2 → a3 < (s c0 0) → ¬ a2 = 1 → ¬ a4 < 0 → ¬ a4 < 61 → a3 < 10 → (s (c0 + 1) a3.toNatClampNeg) < 0 → B (some (.int 0)) s)
    (k9 : ¬ a3 < 0 → ¬ a2 = 2 → a3 < (s c0 0) → ¬ a2 = 1 → ¬ a4 < 0 → ¬ a4 < 61 → a3 < 10 → ¬ (s (c0 + 1) a3.toNatClampNeg) < 0 → ¬ (s (c0 + 1) a3.toNatClampNeg) < 61 → B (some (.int 0)) s)
    (k10 : ¬ a3 < 0 → ¬ a2 = 2 → a3 < (s c0 0) → ¬ a2 = 1 → ¬ a4 < 0 → ¬ a4 < 61 → a3 < 10 → ¬ (s (c0 + 1) a3.toNatClampNeg) < 0 → (s (c0 + 1) a3.toNatClampNeg) < 61 → B (some (.int (0 - (s (c1 + 1) (s (c0 + 1) a3.toNatClampNeg).toNatClampNeg)))) s)
    (k11 : ¬ a3 < 0 → ¬ a2 = 2 → a3 < (s c0 0) → ¬ a2 = 1 → ¬ a4 < 0 → a4 < 61 → ¬ a3 < 10 → B (some (.int ((s (c1 + 1) a4.toNatClampNeg) - 0))) s)
    (k12 : ¬ a3 < 0 → ¬ a2 = 2 → a3 < (s c0 0) → ¬ a2 = 1 → ¬ a4 < 0 → a4 < 61 → a3 < 10 → (s (c0 + 1) a3.toNatClampNeg) < 0 → B (some (.int ((s (c1 + 1) a4.toNatClampNeg) - 0))) s)
    (k13 : ¬ a3 < 0 → ¬ a2 = 2 → a3 < (s c0 0) → ¬ a2 = 1 → ¬ a4 < 0 → a4 < 61 → a3 < 10 → ¬ (s (c0 + 1) a3.toNatClampNeg) < 0 → ¬ (s (c0 + 1) a3.toNatClampNeg) < 61 → B (some (.int ((s (c1 + 1) a4.toNatClampNeg) - 0))) s)
    (k14 : ¬ a3 < 0 → ¬ a2 = 2 → a3 < (s c0 0) → ¬ a2 = 1 → ¬ a4 < 0 → a4 < 61 → a3 < 10 → ¬ (s (c0 + 1) a3.toNatClampNeg) < 0 → (s (c0 + 1) a3.toNatClampNeg) < 61 → B (some (.int ((s (c1 + 1) a4.toNatClampNeg) - (s (c1 + 1) (s (c0 + 1) a3.toNatClampNeg).toNatClampNeg)))) s)
    (k15 : ¬ a3 < 0 → ¬ a2 = 2 → a3 < (s c0 0) → a2 = 1 → ¬ a3 < 10 → B (some (.int 0)) s)
    (k16 : ¬ a3 < 0 → ¬ a2 = 2 → a3 < (s c0 0) → a2 = 1 → a3 < 10 → (s (c0 + 1) a3.toNatClampNeg) < 0 → B (some (.int 0)) s)
    (k17 : ¬ a3 < 0 → ¬ a2 = 2 → a3 < (s c0 0) → a2 = 1 → a3 < 10 → ¬ (s (c0 + 1) a3.toNatClampNeg) < 0 → ¬ (s (c0 + 1) a3.toNatClampNeg) < 61 → B (some (.int 0)) s)
    (k18 : ¬ a3 < 0 → ¬ a2 = 2 → a3 < (s c0 0) → a2 = 1 → a3 < 10 → ¬ (s (c0 + 1) a3.toNatClampNeg) < 0 → (s (c0 + 1) a3.toNatClampNeg) < 61 → B (some (.int (0 - (s (c1 + 1) (s (c0 + 1) a3.toNatClampNeg).toNatClampNeg)))) s)
    (k19 : ¬ a3 < 0 → a2 = 2 → ¬ a3 ≤ (s c0 0) → B (some (.int 0)) s)
    (k20 : ¬ a3 < 0 → a2 = 2 → a3 ≤ (s c0 0) → ¬ (s c0 0) < 10 → B (some (.int 0)) s)
    (k21 : ¬ a3 < 0 → a2 = 2 → a3 ≤ (s c0 0) → (s c0 0) < 10 → ¬ a2 = 1 → a4 < 0 → B (some (.int 0)) s)
    (k22 : ¬ a3 < 0 → a2 = 2 → a3 ≤ (s c0 0) → (s c0 0) < 10 → ¬ a2 = 1 → ¬ a4 < 0 → ¬ a4 < 61 → B (some (.int 0)) s)
    (k23 : ¬ a3 < 0 → a2 = 2 → a3 ≤ (s c0 0) → (s c0 0) < 10 → ¬ a2 = 1 → ¬ a4 < 0 → a4 < 61 → B (some (.int ((s (c1 + 1) a4.toNatClampNeg) - 0))) s)
    (k24 : ¬ a3 < 0 → a2 = 2 → a3 ≤ (s c0 0) → (s c0 0) < 10 → a2 = 1 → B (some (.int 0)) s) :
    q_P G (d + 2) 96 [.ref c0, .ref c1, .int a2, .int a3, .int a4] s B := by
  refine q_in (M := jm_Sections_gain) rfl (Nat.le_of_ble_eq_true rfl) (ls := [some (.ref c0), some (.ref c1), some (.int a2), some (.int a3), some (.int a4), none, none]) rfl ?_
  refine q_aload_n (pc' := 1) ja_Sections_gain_0 rfl rfl ?_
  refine q_iload_n (pc' := 2) ja_Sections_gain_1 rfl rfl ?_
  refine q_iload_n (pc' := 3) ja_Sections_gain_2 rfl rfl ?_
  refine q_virt (pc' := 6) (c := c0) (as := [.int a2, .int a3]) (r := []) ja_Sections_gain_3 rfl rfl rfl (f_8_c hc0) ⟨by rw [f_8_k hc0], by decide⟩ ?_
  refine q_in (M := jm_Sections_canChange) rfl (Nat.le_of_ble_eq_true rfl) (ls := [some (.ref c0), some (.int a2), some (.int a3)]) rfl ?_
  refine q_iload_n (pc' := 1) ja_Sections_canChange_0 rfl rfl ?_
  refine q_if_lt (pc' := 4) ja_Sections_canChange_1 rfl ?_ ?_
  · intro h1
    refine q_iconst (pc' := 45) ja_Sections_canChange_44 rfl 0 (by decide) ?_
    refine q_iret ja_Sections_canChange_45 rfl (by decide) ?_
    show q_W _ _ _ _ 6 [some (.ref c0), some (.ref c1), some (.int a2), some (.int a3), some (.int a4), none, none] [.int 0] s
    refine q_if_ne (pc' := 9) ja_Sections_gain_6 rfl (fun h => absurd ((by decide : (0 : Int32) = 0)) h) (fun _ => ?_)
    refine q_iconst (pc' := 10) ja_Sections_gain_9 rfl 0 (by decide) ?_
    exact q_iret ja_Sections_gain_10 rfl rfl (k1 h1)
  · intro h2
    refine q_iload_n (pc' := 5) ja_Sections_canChange_4 rfl rfl ?_
    refine q_iconst (pc' := 6) ja_Sections_canChange_5 rfl 2 (by decide) ?_
    refine q_ic_ne (pc' := 9) ja_Sections_canChange_6 rfl ?_ ?_
    · intro h3
      refine q_iload_n (pc' := 33) ja_Sections_canChange_32 rfl rfl ?_
      refine q_aload_n (pc' := 34) ja_Sections_canChange_33 rfl rfl ?_
      refine q_getf (pc' := 37) (v := .int (s c0 0)) ja_Sections_canChange_34 rfl (f_8_c hc0) ⟨by rw [f_8_k hc0], by decide⟩ (f_i (f_8_k hc0) rfl) ?_
      refine q_ic_ge (pc' := 40) ja_Sections_canChange_37 rfl ?_ ?_
      · intro h4
        refine q_iconst (pc' := 45) ja_Sections_canChange_44 rfl 0 (by decide) ?_
        refine q_iret ja_Sections_canChange_45 rfl (by decide) ?_
        show q_W _ _ _ _ 6 [some (.ref c0), some (.ref c1), some (.int a2), some (.int a3), some (.int a4), none, none] [.int 0] s
        refine q_if_ne (pc' := 9) ja_Sections_gain_6 rfl (fun h => absurd ((by decide : (0 : Int32) = 0)) h) (fun _ => ?_)
        refine q_iconst (pc' := 10) ja_Sections_gain_9 rfl 0 (by decide) ?_
        exact q_iret ja_Sections_gain_10 rfl rfl (k2 h2 h3 h4)
      · intro h5
        refine q_iconst (pc' := 41) ja_Sections_canChange_40 rfl 1 (by decide) ?_
        refine q_goto ja_Sections_canChange_41 ?_
        refine q_iret ja_Sections_canChange_45 rfl (by decide) ?_
        show q_W _ _ _ _ 6 [some (.ref c0), some (.ref c1), some (.int a2), some (.int a3), some (.int a4), none, none] [.int 1] s
        refine q_if_ne (pc' := 9) ja_Sections_gain_6 rfl (fun _ => ?_) (fun h => absurd h ((by decide : ¬ (1 : Int32) = 0)))
        refine q_iload_n (pc' := 12) ja_Sections_gain_11 rfl rfl ?_
        refine q_iconst (pc' := 13) ja_Sections_gain_12 rfl 1 (by decide) ?_
        refine q_ic_ne (pc' := 16) ja_Sections_gain_13 rfl ?_ ?_
        · intro h6
          refine q_aload_n (pc' := 21) ja_Sections_gain_20 rfl rfl ?_
          refine q_iload (pc' := 23) ja_Sections_gain_21 rfl rfl ?_
          refine q_virt (pc' := 26) (c := c1) (as := [.int a4]) (r := []) ja_Sections_gain_23 rfl rfl rfl (f_5_c hc1) ⟨by rw [f_5_k hc1], by decide⟩ ?_
          refine q_in (M := jm_Member_liking) rfl (Nat.le_of_ble_eq_true rfl) (ls := [some (.ref c1), some (.int a4)]) rfl ?_
          refine q_iload_n (pc' := 1) ja_Member_liking_0 rfl rfl ?_
          refine q_if_lt (pc' := 4) ja_Member_liking_1 rfl ?_ ?_
          · intro h7
            refine q_iconst (pc' := 23) ja_Member_liking_22 rfl 0 (by decide) ?_
            refine q_iret ja_Member_liking_23 rfl rfl ?_
            show q_W _ _ _ _ 26 [some (.ref c0), some (.ref c1), some (.int a2), some (.int a3), some (.int a4), none, none] [.int 0] s
            refine q_istore (pc' := 28) (ls' := [some (.ref c0), some (.ref c1), some (.int a2), some (.int a3), some (.int a4), some (.int 0), none]) ja_Sections_gain_26 rfl ⟨Nat.le_of_ble_eq_true rfl, rfl⟩ rfl ?_
            refine q_iload_n (pc' := 29) ja_Sections_gain_28 rfl rfl ?_
            refine q_iconst (pc' := 30) ja_Sections_gain_29 rfl 2 (by decide) ?_
            refine q_ic_ne (pc' := 33) ja_Sections_gain_30 rfl (fun _ => ?_) (fun h => absurd h (h3))
            refine q_aload_n (pc' := 38) ja_Sections_gain_37 rfl rfl ?_
            refine q_aload_n (pc' := 39) ja_Sections_gain_38 rfl rfl ?_
            refine q_iload_n (pc' := 40) ja_Sections_gain_39 rfl rfl ?_
            refine q_virt (pc' := 43) (c := c0) (as := [.int a3]) (r := [.ref c1]) ja_Sections_gain_40 rfl rfl rfl (f_8_c hc0) ⟨by rw [f_8_k hc0], by decide⟩ ?_
            refine q_in (M := jm_Sections_wordAt) rfl (Nat.le_of_ble_eq_true rfl) (ls := [some (.ref c0), some (.int a3)]) rfl ?_
            refine q_iload_n (pc' := 1) ja_Sections_wordAt_0 rfl rfl ?_
            refine q_if_lt (pc' := 4) ja_Sections_wordAt_1 rfl (fun h => absurd h (h2)) (fun _ => ?_)
            refine q_iload_n (pc' := 5) ja_Sections_wordAt_4 rfl rfl ?_
            refine q_aload_n (pc' := 6) ja_Sections_wordAt_5 rfl rfl ?_
            refine q_getf (pc' := 9) (v := .int (s c0 0)) ja_Sections_wordAt_6 rfl (f_8_c hc0) ⟨by rw [f_8_k hc0], by decide⟩ (f_i (f_8_k hc0) rfl) ?_
            refine q_ic_ge (pc' := 12) ja_Sections_wordAt_9 rfl (fun h => absurd (h5) h) (fun _ => ?_)
            refine q_iload_n (pc' := 13) ja_Sections_wordAt_12 rfl rfl ?_
            refine q_aload_n (pc' := 14) ja_Sections_wordAt_13 rfl rfl ?_
            refine q_getf (pc' := 17) (v := .ref (c0 + 1)) ja_Sections_wordAt_14 rfl (f_8_c hc0) ⟨by rw [f_8_k hc0], by decide⟩ (f_8_g1 hc0) ?_
            refine q_alen (pc' := 18) ja_Sections_wordAt_17 rfl (f_a_c (f_8_s1 hc0)) (kd := 13) (l := 10) (f_a_k (f_8_s1 hc0)) (by decide) (v := 10) (by decide) ?_
            refine q_ic_ge (pc' := 21) ja_Sections_wordAt_18 rfl ?_ ?_
            · intro h8
              refine q_iconst (pc' := 31) ja_Sections_wordAt_30 rfl (-1) (by decide) ?_
              refine q_iret ja_Sections_wordAt_31 rfl rfl ?_
              show q_W _ _ _ _ 43 [some (.ref c0), some (.ref c1), some (.int a2), some (.int a3), some (.int a4), some (.int 0), none] [.int (-1), .ref c1] s
              refine q_virt (pc' := 46) (c := c1) (as := [.int (-1)]) (r := []) ja_Sections_gain_43 rfl rfl rfl (f_5_c hc1) ⟨by rw [f_5_k hc1], by decide⟩ ?_
              refine q_in (M := jm_Member_liking) rfl (Nat.le_of_ble_eq_true rfl) (ls := [some (.ref c1), some (.int (-1))]) rfl ?_
              refine q_iload_n (pc' := 1) ja_Member_liking_0 rfl rfl ?_
              refine q_if_lt (pc' := 4) ja_Member_liking_1 rfl (fun _ => ?_) (fun h => absurd ((by decide : (-1 : Int32) < 0)) h)
              refine q_iconst (pc' := 23) ja_Member_liking_22 rfl 0 (by decide) ?_
              refine q_iret ja_Member_liking_23 rfl rfl ?_
              show q_W _ _ _ _ 46 [some (.ref c0), some (.ref c1), some (.int a2), some (.int a3), some (.int a4), some (.int 0), none] [.int 0] s
              refine q_istore (pc' := 48) (ls' := [some (.ref c0), some (.ref c1), some (.int a2), some (.int a3), some (.int a4), some (.int 0), some (.int 0)]) ja_Sections_gain_46 rfl ⟨Nat.le_of_ble_eq_true rfl, rfl⟩ rfl ?_
              refine q_iload (pc' := 50) ja_Sections_gain_48 rfl rfl ?_
              refine q_iload (pc' := 52) ja_Sections_gain_50 rfl rfl ?_
              refine q_isub (pc' := 53) ja_Sections_gain_52 rfl ?_
              rw [show ((0 - 0) : Int32) = 0 from by decide]
              exact q_iret ja_Sections_gain_53 rfl rfl (k3 h2 h3 h5 h6 h7 h8)
            · intro h9
              refine q_aload_n (pc' := 22) ja_Sections_wordAt_21 rfl rfl ?_
              refine q_getf (pc' := 25) (v := .ref (c0 + 1)) ja_Sections_wordAt_22 rfl (f_8_c hc0) ⟨by rw [f_8_k hc0], by decide⟩ (f_8_g1 hc0) ?_
              refine q_iload_n (pc' := 26) ja_Sections_wordAt_25 rfl rfl ?_
              refine q_iald (pc' := 27) (v := .int (s (c0 + 1) a3.toNatClampNeg)) ja_Sections_wordAt_26 rfl (f_a_c (f_8_s1 hc0)) (l := 10) (f_a_k (f_8_s1 hc0)) (q_inr (l := 10) (by decide) h2 h9) (f_i (f_a_k (f_8_s1 hc0)) rfl) ?_
              refine q_goto ja_Sections_wordAt_27 ?_
              refine q_iret ja_Sections_wordAt_31 rfl rfl ?_
              show q_W _ _ _ _ 43 [some (.ref c0), some (.ref c1), some (.int a2), some (.int a3), some (.int a4), some (.int 0), none] [.int (s (c0 + 1) a3.toNatClampNeg), .ref c1] s
              refine q_virt (pc' := 46) (c := c1) (as := [.int (s (c0 + 1) a3.toNatClampNeg)]) (r := []) ja_Sections_gain_43 rfl rfl rfl (f_5_c hc1) ⟨by rw [f_5_k hc1], by decide⟩ ?_
              refine q_in (M := jm_Member_liking) rfl (Nat.le_of_ble_eq_true rfl) (ls := [some (.ref c1), some (.int (s (c0 + 1) a3.toNatClampNeg))]) rfl ?_
              refine q_iload_n (pc' := 1) ja_Member_liking_0 rfl rfl ?_
              refine q_if_lt (pc' := 4) ja_Member_liking_1 rfl ?_ ?_
              · intro h10
                refine q_iconst (pc' := 23) ja_Member_liking_22 rfl 0 (by decide) ?_
                refine q_iret ja_Member_liking_23 rfl rfl ?_
                show q_W _ _ _ _ 46 [some (.ref c0), some (.ref c1), some (.int a2), some (.int a3), some (.int a4), some (.int 0), none] [.int 0] s
                refine q_istore (pc' := 48) (ls' := [some (.ref c0), some (.ref c1), some (.int a2), some (.int a3), some (.int a4), some (.int 0), some (.int 0)]) ja_Sections_gain_46 rfl ⟨Nat.le_of_ble_eq_true rfl, rfl⟩ rfl ?_
                refine q_iload (pc' := 50) ja_Sections_gain_48 rfl rfl ?_
                refine q_iload (pc' := 52) ja_Sections_gain_50 rfl rfl ?_
                refine q_isub (pc' := 53) ja_Sections_gain_52 rfl ?_
                rw [show ((0 - 0) : Int32) = 0 from by decide]
                exact q_iret ja_Sections_gain_53 rfl rfl (k4 h2 h3 h5 h6 h7 h9 h10)
              · intro h11
                refine q_iload_n (pc' := 5) ja_Member_liking_4 rfl rfl ?_
                refine q_aload_n (pc' := 6) ja_Member_liking_5 rfl rfl ?_
                refine q_getf (pc' := 9) (v := .ref (c1 + 1)) ja_Member_liking_6 rfl (f_5_c hc1) ⟨by rw [f_5_k hc1], by decide⟩ (f_5_g4 hc1) ?_
                refine q_alen (pc' := 10) ja_Member_liking_9 rfl (f_a_c (f_5_s4 hc1)) (kd := 13) (l := 61) (f_a_k (f_5_s4 hc1)) (by decide) (v := 61) (by decide) ?_
                refine q_ic_ge (pc' := 13) ja_Member_liking_10 rfl ?_ ?_
                · intro h12
                  refine q_iconst (pc' := 23) ja_Member_liking_22 rfl 0 (by decide) ?_
                  refine q_iret ja_Member_liking_23 rfl rfl ?_
                  show q_W _ _ _ _ 46 [some (.ref c0), some (.ref c1), some (.int a2), some (.int a3), some (.int a4), some (.int 0), none] [.int 0] s
                  refine q_istore (pc' := 48) (ls' := [some (.ref c0), some (.ref c1), some (.int a2), some (.int a3), some (.int a4), some (.int 0), some (.int 0)]) ja_Sections_gain_46 rfl ⟨Nat.le_of_ble_eq_true rfl, rfl⟩ rfl ?_
                  refine q_iload (pc' := 50) ja_Sections_gain_48 rfl rfl ?_
                  refine q_iload (pc' := 52) ja_Sections_gain_50 rfl rfl ?_
                  refine q_isub (pc' := 53) ja_Sections_gain_52 rfl ?_
                  rw [show ((0 - 0) : Int32) = 0 from by decide]
                  exact q_iret ja_Sections_gain_53 rfl rfl (k5 h2 h3 h5 h6 h7 h9 h11 h12)
                · intro h13
                  refine q_aload_n (pc' := 14) ja_Member_liking_13 rfl rfl ?_
                  refine q_getf (pc' := 17) (v := .ref (c1 + 1)) ja_Member_liking_14 rfl (f_5_c hc1) ⟨by rw [f_5_k hc1], by decide⟩ (f_5_g4 hc1) ?_
                  refine q_iload_n (pc' := 18) ja_Member_liking_17 rfl rfl ?_
                  refine q_iald (pc' := 19) (v := .int (s (c1 + 1) (s (c0 + 1) a3.toNatClampNeg).toNatClampNeg)) ja_Member_liking_18 rfl (f_a_c (f_5_s4 hc1)) (l := 61) (f_a_k (f_5_s4 hc1)) (q_inr (l := 61) (by decide) h11 h13) (f_i (f_a_k (f_5_s4 hc1)) rfl) ?_
                  refine q_goto ja_Member_liking_19 ?_
                  refine q_iret ja_Member_liking_23 rfl rfl ?_
                  show q_W _ _ _ _ 46 [some (.ref c0), some (.ref c1), some (.int a2), some (.int a3), some (.int a4), some (.int 0), none] [.int (s (c1 + 1) (s (c0 + 1) a3.toNatClampNeg).toNatClampNeg)] s
                  refine q_istore (pc' := 48) (ls' := [some (.ref c0), some (.ref c1), some (.int a2), some (.int a3), some (.int a4), some (.int 0), some (.int (s (c1 + 1) (s (c0 + 1) a3.toNatClampNeg).toNatClampNeg))]) ja_Sections_gain_46 rfl ⟨Nat.le_of_ble_eq_true rfl, rfl⟩ rfl ?_
                  refine q_iload (pc' := 50) ja_Sections_gain_48 rfl rfl ?_
                  refine q_iload (pc' := 52) ja_Sections_gain_50 rfl rfl ?_
                  refine q_isub (pc' := 53) ja_Sections_gain_52 rfl ?_
                  exact q_iret ja_Sections_gain_53 rfl rfl (k6 h2 h3 h5 h6 h7 h9 h11 h13)
          · intro h14
            refine q_iload_n (pc' := 5) ja_Member_liking_4 rfl rfl ?_
            refine q_aload_n (pc' := 6) ja_Member_liking_5 rfl rfl ?_
            refine q_getf (pc' := 9) (v := .ref (c1 + 1)) ja_Member_liking_6 rfl (f_5_c hc1) ⟨by rw [f_5_k hc1], by decide⟩ (f_5_g4 hc1) ?_
            refine q_alen (pc' := 10) ja_Member_liking_9 rfl (f_a_c (f_5_s4 hc1)) (kd := 13) (l := 61) (f_a_k (f_5_s4 hc1)) (by decide) (v := 61) (by decide) ?_
            refine q_ic_ge (pc' := 13) ja_Member_liking_10 rfl ?_ ?_
            · intro h15
              refine q_iconst (pc' := 23) ja_Member_liking_22 rfl 0 (by decide) ?_
              refine q_iret ja_Member_liking_23 rfl rfl ?_
              show q_W _ _ _ _ 26 [some (.ref c0), some (.ref c1), some (.int a2), some (.int a3), some (.int a4), none, none] [.int 0] s
              refine q_istore (pc' := 28) (ls' := [some (.ref c0), some (.ref c1), some (.int a2), some (.int a3), some (.int a4), some (.int 0), none]) ja_Sections_gain_26 rfl ⟨Nat.le_of_ble_eq_true rfl, rfl⟩ rfl ?_
              refine q_iload_n (pc' := 29) ja_Sections_gain_28 rfl rfl ?_
              refine q_iconst (pc' := 30) ja_Sections_gain_29 rfl 2 (by decide) ?_
              refine q_ic_ne (pc' := 33) ja_Sections_gain_30 rfl (fun _ => ?_) (fun h => absurd h (h3))
              refine q_aload_n (pc' := 38) ja_Sections_gain_37 rfl rfl ?_
              refine q_aload_n (pc' := 39) ja_Sections_gain_38 rfl rfl ?_
              refine q_iload_n (pc' := 40) ja_Sections_gain_39 rfl rfl ?_
              refine q_virt (pc' := 43) (c := c0) (as := [.int a3]) (r := [.ref c1]) ja_Sections_gain_40 rfl rfl rfl (f_8_c hc0) ⟨by rw [f_8_k hc0], by decide⟩ ?_
              refine q_in (M := jm_Sections_wordAt) rfl (Nat.le_of_ble_eq_true rfl) (ls := [some (.ref c0), some (.int a3)]) rfl ?_
              refine q_iload_n (pc' := 1) ja_Sections_wordAt_0 rfl rfl ?_
              refine q_if_lt (pc' := 4) ja_Sections_wordAt_1 rfl (fun h => absurd h (h2)) (fun _ => ?_)
              refine q_iload_n (pc' := 5) ja_Sections_wordAt_4 rfl rfl ?_
              refine q_aload_n (pc' := 6) ja_Sections_wordAt_5 rfl rfl ?_
              refine q_getf (pc' := 9) (v := .int (s c0 0)) ja_Sections_wordAt_6 rfl (f_8_c hc0) ⟨by rw [f_8_k hc0], by decide⟩ (f_i (f_8_k hc0) rfl) ?_
              refine q_ic_ge (pc' := 12) ja_Sections_wordAt_9 rfl (fun h => absurd (h5) h) (fun _ => ?_)
              refine q_iload_n (pc' := 13) ja_Sections_wordAt_12 rfl rfl ?_
              refine q_aload_n (pc' := 14) ja_Sections_wordAt_13 rfl rfl ?_
              refine q_getf (pc' := 17) (v := .ref (c0 + 1)) ja_Sections_wordAt_14 rfl (f_8_c hc0) ⟨by rw [f_8_k hc0], by decide⟩ (f_8_g1 hc0) ?_
              refine q_alen (pc' := 18) ja_Sections_wordAt_17 rfl (f_a_c (f_8_s1 hc0)) (kd := 13) (l := 10) (f_a_k (f_8_s1 hc0)) (by decide) (v := 10) (by decide) ?_
              refine q_ic_ge (pc' := 21) ja_Sections_wordAt_18 rfl ?_ ?_
              · intro h16
                refine q_iconst (pc' := 31) ja_Sections_wordAt_30 rfl (-1) (by decide) ?_
                refine q_iret ja_Sections_wordAt_31 rfl rfl ?_
                show q_W _ _ _ _ 43 [some (.ref c0), some (.ref c1), some (.int a2), some (.int a3), some (.int a4), some (.int 0), none] [.int (-1), .ref c1] s
                refine q_virt (pc' := 46) (c := c1) (as := [.int (-1)]) (r := []) ja_Sections_gain_43 rfl rfl rfl (f_5_c hc1) ⟨by rw [f_5_k hc1], by decide⟩ ?_
                refine q_in (M := jm_Member_liking) rfl (Nat.le_of_ble_eq_true rfl) (ls := [some (.ref c1), some (.int (-1))]) rfl ?_
                refine q_iload_n (pc' := 1) ja_Member_liking_0 rfl rfl ?_
                refine q_if_lt (pc' := 4) ja_Member_liking_1 rfl (fun _ => ?_) (fun h => absurd ((by decide : (-1 : Int32) < 0)) h)
                refine q_iconst (pc' := 23) ja_Member_liking_22 rfl 0 (by decide) ?_
                refine q_iret ja_Member_liking_23 rfl rfl ?_
                show q_W _ _ _ _ 46 [some (.ref c0), some (.ref c1), some (.int a2), some (.int a3), some (.int a4), some (.int 0), none] [.int 0] s
                refine q_istore (pc' := 48) (ls' := [some (.ref c0), some (.ref c1), some (.int a2), some (.int a3), some (.int a4), some (.int 0), some (.int 0)]) ja_Sections_gain_46 rfl ⟨Nat.le_of_ble_eq_true rfl, rfl⟩ rfl ?_
                refine q_iload (pc' := 50) ja_Sections_gain_48 rfl rfl ?_
                refine q_iload (pc' := 52) ja_Sections_gain_50 rfl rfl ?_
                refine q_isub (pc' := 53) ja_Sections_gain_52 rfl ?_
                rw [show ((0 - 0) : Int32) = 0 from by decide]
                exact q_iret ja_Sections_gain_53 rfl rfl (k7 h2 h3 h5 h6 h14 h15 h16)
              · intro h17
                refine q_aload_n (pc' := 22) ja_Sections_wordAt_21 rfl rfl ?_
                refine q_getf (pc' := 25) (v := .ref (c0 + 1)) ja_Sections_wordAt_22 rfl (f_8_c hc0) ⟨by rw [f_8_k hc0], by decide⟩ (f_8_g1 hc0) ?_
                refine q_iload_n (pc' := 26) ja_Sections_wordAt_25 rfl rfl ?_
                refine q_iald (pc' := 27) (v := .int (s (c0 + 1) a3.toNatClampNeg)) ja_Sections_wordAt_26 rfl (f_a_c (f_8_s1 hc0)) (l := 10) (f_a_k (f_8_s1 hc0)) (q_inr (l := 10) (by decide) h2 h17) (f_i (f_a_k (f_8_s1 hc0)) rfl) ?_
                refine q_goto ja_Sections_wordAt_27 ?_
                refine q_iret ja_Sections_wordAt_31 rfl rfl ?_
                show q_W _ _ _ _ 43 [some (.ref c0), some (.ref c1), some (.int a2), some (.int a3), some (.int a4), some (.int 0), none] [.int (s (c0 + 1) a3.toNatClampNeg), .ref c1] s
                refine q_virt (pc' := 46) (c := c1) (as := [.int (s (c0 + 1) a3.toNatClampNeg)]) (r := []) ja_Sections_gain_43 rfl rfl rfl (f_5_c hc1) ⟨by rw [f_5_k hc1], by decide⟩ ?_
                refine q_in (M := jm_Member_liking) rfl (Nat.le_of_ble_eq_true rfl) (ls := [some (.ref c1), some (.int (s (c0 + 1) a3.toNatClampNeg))]) rfl ?_
                refine q_iload_n (pc' := 1) ja_Member_liking_0 rfl rfl ?_
                refine q_if_lt (pc' := 4) ja_Member_liking_1 rfl ?_ ?_
                · intro h18
                  refine q_iconst (pc' := 23) ja_Member_liking_22 rfl 0 (by decide) ?_
                  refine q_iret ja_Member_liking_23 rfl rfl ?_
                  show q_W _ _ _ _ 46 [some (.ref c0), some (.ref c1), some (.int a2), some (.int a3), some (.int a4), some (.int 0), none] [.int 0] s
                  refine q_istore (pc' := 48) (ls' := [some (.ref c0), some (.ref c1), some (.int a2), some (.int a3), some (.int a4), some (.int 0), some (.int 0)]) ja_Sections_gain_46 rfl ⟨Nat.le_of_ble_eq_true rfl, rfl⟩ rfl ?_
                  refine q_iload (pc' := 50) ja_Sections_gain_48 rfl rfl ?_
                  refine q_iload (pc' := 52) ja_Sections_gain_50 rfl rfl ?_
                  refine q_isub (pc' := 53) ja_Sections_gain_52 rfl ?_
                  rw [show ((0 - 0) : Int32) = 0 from by decide]
                  exact q_iret ja_Sections_gain_53 rfl rfl (k8 h2 h3 h5 h6 h14 h15 h17 h18)
                · intro h19
                  refine q_iload_n (pc' := 5) ja_Member_liking_4 rfl rfl ?_
                  refine q_aload_n (pc' := 6) ja_Member_liking_5 rfl rfl ?_
                  refine q_getf (pc' := 9) (v := .ref (c1 + 1)) ja_Member_liking_6 rfl (f_5_c hc1) ⟨by rw [f_5_k hc1], by decide⟩ (f_5_g4 hc1) ?_
                  refine q_alen (pc' := 10) ja_Member_liking_9 rfl (f_a_c (f_5_s4 hc1)) (kd := 13) (l := 61) (f_a_k (f_5_s4 hc1)) (by decide) (v := 61) (by decide) ?_
                  refine q_ic_ge (pc' := 13) ja_Member_liking_10 rfl ?_ ?_
                  · intro h20
                    refine q_iconst (pc' := 23) ja_Member_liking_22 rfl 0 (by decide) ?_
                    refine q_iret ja_Member_liking_23 rfl rfl ?_
                    show q_W _ _ _ _ 46 [some (.ref c0), some (.ref c1), some (.int a2), some (.int a3), some (.int a4), some (.int 0), none] [.int 0] s
                    refine q_istore (pc' := 48) (ls' := [some (.ref c0), some (.ref c1), some (.int a2), some (.int a3), some (.int a4), some (.int 0), some (.int 0)]) ja_Sections_gain_46 rfl ⟨Nat.le_of_ble_eq_true rfl, rfl⟩ rfl ?_
                    refine q_iload (pc' := 50) ja_Sections_gain_48 rfl rfl ?_
                    refine q_iload (pc' := 52) ja_Sections_gain_50 rfl rfl ?_
                    refine q_isub (pc' := 53) ja_Sections_gain_52 rfl ?_
                    rw [show ((0 - 0) : Int32) = 0 from by decide]
                    exact q_iret ja_Sections_gain_53 rfl rfl (k9 h2 h3 h5 h6 h14 h15 h17 h19 h20)
                  · intro h21
                    refine q_aload_n (pc' := 14) ja_Member_liking_13 rfl rfl ?_
                    refine q_getf (pc' := 17) (v := .ref (c1 + 1)) ja_Member_liking_14 rfl (f_5_c hc1) ⟨by rw [f_5_k hc1], by decide⟩ (f_5_g4 hc1) ?_
                    refine q_iload_n (pc' := 18) ja_Member_liking_17 rfl rfl ?_
                    refine q_iald (pc' := 19) (v := .int (s (c1 + 1) (s (c0 + 1) a3.toNatClampNeg).toNatClampNeg)) ja_Member_liking_18 rfl (f_a_c (f_5_s4 hc1)) (l := 61) (f_a_k (f_5_s4 hc1)) (q_inr (l := 61) (by decide) h19 h21) (f_i (f_a_k (f_5_s4 hc1)) rfl) ?_
                    refine q_goto ja_Member_liking_19 ?_
                    refine q_iret ja_Member_liking_23 rfl rfl ?_
                    show q_W _ _ _ _ 46 [some (.ref c0), some (.ref c1), some (.int a2), some (.int a3), some (.int a4), some (.int 0), none] [.int (s (c1 + 1) (s (c0 + 1) a3.toNatClampNeg).toNatClampNeg)] s
                    refine q_istore (pc' := 48) (ls' := [some (.ref c0), some (.ref c1), some (.int a2), some (.int a3), some (.int a4), some (.int 0), some (.int (s (c1 + 1) (s (c0 + 1) a3.toNatClampNeg).toNatClampNeg))]) ja_Sections_gain_46 rfl ⟨Nat.le_of_ble_eq_true rfl, rfl⟩ rfl ?_
                    refine q_iload (pc' := 50) ja_Sections_gain_48 rfl rfl ?_
                    refine q_iload (pc' := 52) ja_Sections_gain_50 rfl rfl ?_
                    refine q_isub (pc' := 53) ja_Sections_gain_52 rfl ?_
                    exact q_iret ja_Sections_gain_53 rfl rfl (k10 h2 h3 h5 h6 h14 h15 h17 h19 h21)
            · intro h22
              refine q_aload_n (pc' := 14) ja_Member_liking_13 rfl rfl ?_
              refine q_getf (pc' := 17) (v := .ref (c1 + 1)) ja_Member_liking_14 rfl (f_5_c hc1) ⟨by rw [f_5_k hc1], by decide⟩ (f_5_g4 hc1) ?_
              refine q_iload_n (pc' := 18) ja_Member_liking_17 rfl rfl ?_
              refine q_iald (pc' := 19) (v := .int (s (c1 + 1) a4.toNatClampNeg)) ja_Member_liking_18 rfl (f_a_c (f_5_s4 hc1)) (l := 61) (f_a_k (f_5_s4 hc1)) (q_inr (l := 61) (by decide) h14 h22) (f_i (f_a_k (f_5_s4 hc1)) rfl) ?_
              refine q_goto ja_Member_liking_19 ?_
              refine q_iret ja_Member_liking_23 rfl rfl ?_
              show q_W _ _ _ _ 26 [some (.ref c0), some (.ref c1), some (.int a2), some (.int a3), some (.int a4), none, none] [.int (s (c1 + 1) a4.toNatClampNeg)] s
              refine q_istore (pc' := 28) (ls' := [some (.ref c0), some (.ref c1), some (.int a2), some (.int a3), some (.int a4), some (.int (s (c1 + 1) a4.toNatClampNeg)), none]) ja_Sections_gain_26 rfl ⟨Nat.le_of_ble_eq_true rfl, rfl⟩ rfl ?_
              refine q_iload_n (pc' := 29) ja_Sections_gain_28 rfl rfl ?_
              refine q_iconst (pc' := 30) ja_Sections_gain_29 rfl 2 (by decide) ?_
              refine q_ic_ne (pc' := 33) ja_Sections_gain_30 rfl (fun _ => ?_) (fun h => absurd h (h3))
              refine q_aload_n (pc' := 38) ja_Sections_gain_37 rfl rfl ?_
              refine q_aload_n (pc' := 39) ja_Sections_gain_38 rfl rfl ?_
              refine q_iload_n (pc' := 40) ja_Sections_gain_39 rfl rfl ?_
              refine q_virt (pc' := 43) (c := c0) (as := [.int a3]) (r := [.ref c1]) ja_Sections_gain_40 rfl rfl rfl (f_8_c hc0) ⟨by rw [f_8_k hc0], by decide⟩ ?_
              refine q_in (M := jm_Sections_wordAt) rfl (Nat.le_of_ble_eq_true rfl) (ls := [some (.ref c0), some (.int a3)]) rfl ?_
              refine q_iload_n (pc' := 1) ja_Sections_wordAt_0 rfl rfl ?_
              refine q_if_lt (pc' := 4) ja_Sections_wordAt_1 rfl (fun h => absurd h (h2)) (fun _ => ?_)
              refine q_iload_n (pc' := 5) ja_Sections_wordAt_4 rfl rfl ?_
              refine q_aload_n (pc' := 6) ja_Sections_wordAt_5 rfl rfl ?_
              refine q_getf (pc' := 9) (v := .int (s c0 0)) ja_Sections_wordAt_6 rfl (f_8_c hc0) ⟨by rw [f_8_k hc0], by decide⟩ (f_i (f_8_k hc0) rfl) ?_
              refine q_ic_ge (pc' := 12) ja_Sections_wordAt_9 rfl (fun h => absurd (h5) h) (fun _ => ?_)
              refine q_iload_n (pc' := 13) ja_Sections_wordAt_12 rfl rfl ?_
              refine q_aload_n (pc' := 14) ja_Sections_wordAt_13 rfl rfl ?_
              refine q_getf (pc' := 17) (v := .ref (c0 + 1)) ja_Sections_wordAt_14 rfl (f_8_c hc0) ⟨by rw [f_8_k hc0], by decide⟩ (f_8_g1 hc0) ?_
              refine q_alen (pc' := 18) ja_Sections_wordAt_17 rfl (f_a_c (f_8_s1 hc0)) (kd := 13) (l := 10) (f_a_k (f_8_s1 hc0)) (by decide) (v := 10) (by decide) ?_
              refine q_ic_ge (pc' := 21) ja_Sections_wordAt_18 rfl ?_ ?_
              · intro h23
                refine q_iconst (pc' := 31) ja_Sections_wordAt_30 rfl (-1) (by decide) ?_
                refine q_iret ja_Sections_wordAt_31 rfl rfl ?_
                show q_W _ _ _ _ 43 [some (.ref c0), some (.ref c1), some (.int a2), some (.int a3), some (.int a4), some (.int (s (c1 + 1) a4.toNatClampNeg)), none] [.int (-1), .ref c1] s
                refine q_virt (pc' := 46) (c := c1) (as := [.int (-1)]) (r := []) ja_Sections_gain_43 rfl rfl rfl (f_5_c hc1) ⟨by rw [f_5_k hc1], by decide⟩ ?_
                refine q_in (M := jm_Member_liking) rfl (Nat.le_of_ble_eq_true rfl) (ls := [some (.ref c1), some (.int (-1))]) rfl ?_
                refine q_iload_n (pc' := 1) ja_Member_liking_0 rfl rfl ?_
                refine q_if_lt (pc' := 4) ja_Member_liking_1 rfl (fun _ => ?_) (fun h => absurd ((by decide : (-1 : Int32) < 0)) h)
                refine q_iconst (pc' := 23) ja_Member_liking_22 rfl 0 (by decide) ?_
                refine q_iret ja_Member_liking_23 rfl rfl ?_
                show q_W _ _ _ _ 46 [some (.ref c0), some (.ref c1), some (.int a2), some (.int a3), some (.int a4), some (.int (s (c1 + 1) a4.toNatClampNeg)), none] [.int 0] s
                refine q_istore (pc' := 48) (ls' := [some (.ref c0), some (.ref c1), some (.int a2), some (.int a3), some (.int a4), some (.int (s (c1 + 1) a4.toNatClampNeg)), some (.int 0)]) ja_Sections_gain_46 rfl ⟨Nat.le_of_ble_eq_true rfl, rfl⟩ rfl ?_
                refine q_iload (pc' := 50) ja_Sections_gain_48 rfl rfl ?_
                refine q_iload (pc' := 52) ja_Sections_gain_50 rfl rfl ?_
                refine q_isub (pc' := 53) ja_Sections_gain_52 rfl ?_
                exact q_iret ja_Sections_gain_53 rfl rfl (k11 h2 h3 h5 h6 h14 h22 h23)
              · intro h24
                refine q_aload_n (pc' := 22) ja_Sections_wordAt_21 rfl rfl ?_
                refine q_getf (pc' := 25) (v := .ref (c0 + 1)) ja_Sections_wordAt_22 rfl (f_8_c hc0) ⟨by rw [f_8_k hc0], by decide⟩ (f_8_g1 hc0) ?_
                refine q_iload_n (pc' := 26) ja_Sections_wordAt_25 rfl rfl ?_
                refine q_iald (pc' := 27) (v := .int (s (c0 + 1) a3.toNatClampNeg)) ja_Sections_wordAt_26 rfl (f_a_c (f_8_s1 hc0)) (l := 10) (f_a_k (f_8_s1 hc0)) (q_inr (l := 10) (by decide) h2 h24) (f_i (f_a_k (f_8_s1 hc0)) rfl) ?_
                refine q_goto ja_Sections_wordAt_27 ?_
                refine q_iret ja_Sections_wordAt_31 rfl rfl ?_
                show q_W _ _ _ _ 43 [some (.ref c0), some (.ref c1), some (.int a2), some (.int a3), some (.int a4), some (.int (s (c1 + 1) a4.toNatClampNeg)), none] [.int (s (c0 + 1) a3.toNatClampNeg), .ref c1] s
                refine q_virt (pc' := 46) (c := c1) (as := [.int (s (c0 + 1) a3.toNatClampNeg)]) (r := []) ja_Sections_gain_43 rfl rfl rfl (f_5_c hc1) ⟨by rw [f_5_k hc1], by decide⟩ ?_
                refine q_in (M := jm_Member_liking) rfl (Nat.le_of_ble_eq_true rfl) (ls := [some (.ref c1), some (.int (s (c0 + 1) a3.toNatClampNeg))]) rfl ?_
                refine q_iload_n (pc' := 1) ja_Member_liking_0 rfl rfl ?_
                refine q_if_lt (pc' := 4) ja_Member_liking_1 rfl ?_ ?_
                · intro h25
                  refine q_iconst (pc' := 23) ja_Member_liking_22 rfl 0 (by decide) ?_
                  refine q_iret ja_Member_liking_23 rfl rfl ?_
                  show q_W _ _ _ _ 46 [some (.ref c0), some (.ref c1), some (.int a2), some (.int a3), some (.int a4), some (.int (s (c1 + 1) a4.toNatClampNeg)), none] [.int 0] s
                  refine q_istore (pc' := 48) (ls' := [some (.ref c0), some (.ref c1), some (.int a2), some (.int a3), some (.int a4), some (.int (s (c1 + 1) a4.toNatClampNeg)), some (.int 0)]) ja_Sections_gain_46 rfl ⟨Nat.le_of_ble_eq_true rfl, rfl⟩ rfl ?_
                  refine q_iload (pc' := 50) ja_Sections_gain_48 rfl rfl ?_
                  refine q_iload (pc' := 52) ja_Sections_gain_50 rfl rfl ?_
                  refine q_isub (pc' := 53) ja_Sections_gain_52 rfl ?_
                  exact q_iret ja_Sections_gain_53 rfl rfl (k12 h2 h3 h5 h6 h14 h22 h24 h25)
                · intro h26
                  refine q_iload_n (pc' := 5) ja_Member_liking_4 rfl rfl ?_
                  refine q_aload_n (pc' := 6) ja_Member_liking_5 rfl rfl ?_
                  refine q_getf (pc' := 9) (v := .ref (c1 + 1)) ja_Member_liking_6 rfl (f_5_c hc1) ⟨by rw [f_5_k hc1], by decide⟩ (f_5_g4 hc1) ?_
                  refine q_alen (pc' := 10) ja_Member_liking_9 rfl (f_a_c (f_5_s4 hc1)) (kd := 13) (l := 61) (f_a_k (f_5_s4 hc1)) (by decide) (v := 61) (by decide) ?_
                  refine q_ic_ge (pc' := 13) ja_Member_liking_10 rfl ?_ ?_
                  · intro h27
                    refine q_iconst (pc' := 23) ja_Member_liking_22 rfl 0 (by decide) ?_
                    refine q_iret ja_Member_liking_23 rfl rfl ?_
                    show q_W _ _ _ _ 46 [some (.ref c0), some (.ref c1), some (.int a2), some (.int a3), some (.int a4), some (.int (s (c1 + 1) a4.toNatClampNeg)), none] [.int 0] s
                    refine q_istore (pc' := 48) (ls' := [some (.ref c0), some (.ref c1), some (.int a2), some (.int a3), some (.int a4), some (.int (s (c1 + 1) a4.toNatClampNeg)), some (.int 0)]) ja_Sections_gain_46 rfl ⟨Nat.le_of_ble_eq_true rfl, rfl⟩ rfl ?_
                    refine q_iload (pc' := 50) ja_Sections_gain_48 rfl rfl ?_
                    refine q_iload (pc' := 52) ja_Sections_gain_50 rfl rfl ?_
                    refine q_isub (pc' := 53) ja_Sections_gain_52 rfl ?_
                    exact q_iret ja_Sections_gain_53 rfl rfl (k13 h2 h3 h5 h6 h14 h22 h24 h26 h27)
                  · intro h28
                    refine q_aload_n (pc' := 14) ja_Member_liking_13 rfl rfl ?_
                    refine q_getf (pc' := 17) (v := .ref (c1 + 1)) ja_Member_liking_14 rfl (f_5_c hc1) ⟨by rw [f_5_k hc1], by decide⟩ (f_5_g4 hc1) ?_
                    refine q_iload_n (pc' := 18) ja_Member_liking_17 rfl rfl ?_
                    refine q_iald (pc' := 19) (v := .int (s (c1 + 1) (s (c0 + 1) a3.toNatClampNeg).toNatClampNeg)) ja_Member_liking_18 rfl (f_a_c (f_5_s4 hc1)) (l := 61) (f_a_k (f_5_s4 hc1)) (q_inr (l := 61) (by decide) h26 h28) (f_i (f_a_k (f_5_s4 hc1)) rfl) ?_
                    refine q_goto ja_Member_liking_19 ?_
                    refine q_iret ja_Member_liking_23 rfl rfl ?_
                    show q_W _ _ _ _ 46 [some (.ref c0), some (.ref c1), some (.int a2), some (.int a3), some (.int a4), some (.int (s (c1 + 1) a4.toNatClampNeg)), none] [.int (s (c1 + 1) (s (c0 + 1) a3.toNatClampNeg).toNatClampNeg)] s
                    refine q_istore (pc' := 48) (ls' := [some (.ref c0), some (.ref c1), some (.int a2), some (.int a3), some (.int a4), some (.int (s (c1 + 1) a4.toNatClampNeg)), some (.int (s (c1 + 1) (s (c0 + 1) a3.toNatClampNeg).toNatClampNeg))]) ja_Sections_gain_46 rfl ⟨Nat.le_of_ble_eq_true rfl, rfl⟩ rfl ?_
                    refine q_iload (pc' := 50) ja_Sections_gain_48 rfl rfl ?_
                    refine q_iload (pc' := 52) ja_Sections_gain_50 rfl rfl ?_
                    refine q_isub (pc' := 53) ja_Sections_gain_52 rfl ?_
                    exact q_iret ja_Sections_gain_53 rfl rfl (k14 h2 h3 h5 h6 h14 h22 h24 h26 h28)
        · intro h29
          refine q_iconst (pc' := 17) ja_Sections_gain_16 rfl 0 (by decide) ?_
          refine q_goto ja_Sections_gain_17 ?_
          refine q_istore (pc' := 28) (ls' := [some (.ref c0), some (.ref c1), some (.int a2), some (.int a3), some (.int a4), some (.int 0), none]) ja_Sections_gain_26 rfl ⟨Nat.le_of_ble_eq_true rfl, rfl⟩ rfl ?_
          refine q_iload_n (pc' := 29) ja_Sections_gain_28 rfl rfl ?_
          refine q_iconst (pc' := 30) ja_Sections_gain_29 rfl 2 (by decide) ?_
          refine q_ic_ne (pc' := 33) ja_Sections_gain_30 rfl (fun _ => ?_) (fun h => absurd h (h3))
          refine q_aload_n (pc' := 38) ja_Sections_gain_37 rfl rfl ?_
          refine q_aload_n (pc' := 39) ja_Sections_gain_38 rfl rfl ?_
          refine q_iload_n (pc' := 40) ja_Sections_gain_39 rfl rfl ?_
          refine q_virt (pc' := 43) (c := c0) (as := [.int a3]) (r := [.ref c1]) ja_Sections_gain_40 rfl rfl rfl (f_8_c hc0) ⟨by rw [f_8_k hc0], by decide⟩ ?_
          refine q_in (M := jm_Sections_wordAt) rfl (Nat.le_of_ble_eq_true rfl) (ls := [some (.ref c0), some (.int a3)]) rfl ?_
          refine q_iload_n (pc' := 1) ja_Sections_wordAt_0 rfl rfl ?_
          refine q_if_lt (pc' := 4) ja_Sections_wordAt_1 rfl (fun h => absurd h (h2)) (fun _ => ?_)
          refine q_iload_n (pc' := 5) ja_Sections_wordAt_4 rfl rfl ?_
          refine q_aload_n (pc' := 6) ja_Sections_wordAt_5 rfl rfl ?_
          refine q_getf (pc' := 9) (v := .int (s c0 0)) ja_Sections_wordAt_6 rfl (f_8_c hc0) ⟨by rw [f_8_k hc0], by decide⟩ (f_i (f_8_k hc0) rfl) ?_
          refine q_ic_ge (pc' := 12) ja_Sections_wordAt_9 rfl (fun h => absurd (h5) h) (fun _ => ?_)
          refine q_iload_n (pc' := 13) ja_Sections_wordAt_12 rfl rfl ?_
          refine q_aload_n (pc' := 14) ja_Sections_wordAt_13 rfl rfl ?_
          refine q_getf (pc' := 17) (v := .ref (c0 + 1)) ja_Sections_wordAt_14 rfl (f_8_c hc0) ⟨by rw [f_8_k hc0], by decide⟩ (f_8_g1 hc0) ?_
          refine q_alen (pc' := 18) ja_Sections_wordAt_17 rfl (f_a_c (f_8_s1 hc0)) (kd := 13) (l := 10) (f_a_k (f_8_s1 hc0)) (by decide) (v := 10) (by decide) ?_
          refine q_ic_ge (pc' := 21) ja_Sections_wordAt_18 rfl ?_ ?_
          · intro h30
            refine q_iconst (pc' := 31) ja_Sections_wordAt_30 rfl (-1) (by decide) ?_
            refine q_iret ja_Sections_wordAt_31 rfl rfl ?_
            show q_W _ _ _ _ 43 [some (.ref c0), some (.ref c1), some (.int a2), some (.int a3), some (.int a4), some (.int 0), none] [.int (-1), .ref c1] s
            refine q_virt (pc' := 46) (c := c1) (as := [.int (-1)]) (r := []) ja_Sections_gain_43 rfl rfl rfl (f_5_c hc1) ⟨by rw [f_5_k hc1], by decide⟩ ?_
            refine q_in (M := jm_Member_liking) rfl (Nat.le_of_ble_eq_true rfl) (ls := [some (.ref c1), some (.int (-1))]) rfl ?_
            refine q_iload_n (pc' := 1) ja_Member_liking_0 rfl rfl ?_
            refine q_if_lt (pc' := 4) ja_Member_liking_1 rfl (fun _ => ?_) (fun h => absurd ((by decide : (-1 : Int32) < 0)) h)
            refine q_iconst (pc' := 23) ja_Member_liking_22 rfl 0 (by decide) ?_
            refine q_iret ja_Member_liking_23 rfl rfl ?_
            show q_W _ _ _ _ 46 [some (.ref c0), some (.ref c1), some (.int a2), some (.int a3), some (.int a4), some (.int 0), none] [.int 0] s
            refine q_istore (pc' := 48) (ls' := [some (.ref c0), some (.ref c1), some (.int a2), some (.int a3), some (.int a4), some (.int 0), some (.int 0)]) ja_Sections_gain_46 rfl ⟨Nat.le_of_ble_eq_true rfl, rfl⟩ rfl ?_
            refine q_iload (pc' := 50) ja_Sections_gain_48 rfl rfl ?_
            refine q_iload (pc' := 52) ja_Sections_gain_50 rfl rfl ?_
            refine q_isub (pc' := 53) ja_Sections_gain_52 rfl ?_
            rw [show ((0 - 0) : Int32) = 0 from by decide]
            exact q_iret ja_Sections_gain_53 rfl rfl (k15 h2 h3 h5 h29 h30)
          · intro h31
            refine q_aload_n (pc' := 22) ja_Sections_wordAt_21 rfl rfl ?_
            refine q_getf (pc' := 25) (v := .ref (c0 + 1)) ja_Sections_wordAt_22 rfl (f_8_c hc0) ⟨by rw [f_8_k hc0], by decide⟩ (f_8_g1 hc0) ?_
            refine q_iload_n (pc' := 26) ja_Sections_wordAt_25 rfl rfl ?_
            refine q_iald (pc' := 27) (v := .int (s (c0 + 1) a3.toNatClampNeg)) ja_Sections_wordAt_26 rfl (f_a_c (f_8_s1 hc0)) (l := 10) (f_a_k (f_8_s1 hc0)) (q_inr (l := 10) (by decide) h2 h31) (f_i (f_a_k (f_8_s1 hc0)) rfl) ?_
            refine q_goto ja_Sections_wordAt_27 ?_
            refine q_iret ja_Sections_wordAt_31 rfl rfl ?_
            show q_W _ _ _ _ 43 [some (.ref c0), some (.ref c1), some (.int a2), some (.int a3), some (.int a4), some (.int 0), none] [.int (s (c0 + 1) a3.toNatClampNeg), .ref c1] s
            refine q_virt (pc' := 46) (c := c1) (as := [.int (s (c0 + 1) a3.toNatClampNeg)]) (r := []) ja_Sections_gain_43 rfl rfl rfl (f_5_c hc1) ⟨by rw [f_5_k hc1], by decide⟩ ?_
            refine q_in (M := jm_Member_liking) rfl (Nat.le_of_ble_eq_true rfl) (ls := [some (.ref c1), some (.int (s (c0 + 1) a3.toNatClampNeg))]) rfl ?_
            refine q_iload_n (pc' := 1) ja_Member_liking_0 rfl rfl ?_
            refine q_if_lt (pc' := 4) ja_Member_liking_1 rfl ?_ ?_
            · intro h32
              refine q_iconst (pc' := 23) ja_Member_liking_22 rfl 0 (by decide) ?_
              refine q_iret ja_Member_liking_23 rfl rfl ?_
              show q_W _ _ _ _ 46 [some (.ref c0), some (.ref c1), some (.int a2), some (.int a3), some (.int a4), some (.int 0), none] [.int 0] s
              refine q_istore (pc' := 48) (ls' := [some (.ref c0), some (.ref c1), some (.int a2), some (.int a3), some (.int a4), some (.int 0), some (.int 0)]) ja_Sections_gain_46 rfl ⟨Nat.le_of_ble_eq_true rfl, rfl⟩ rfl ?_
              refine q_iload (pc' := 50) ja_Sections_gain_48 rfl rfl ?_
              refine q_iload (pc' := 52) ja_Sections_gain_50 rfl rfl ?_
              refine q_isub (pc' := 53) ja_Sections_gain_52 rfl ?_
              rw [show ((0 - 0) : Int32) = 0 from by decide]
              exact q_iret ja_Sections_gain_53 rfl rfl (k16 h2 h3 h5 h29 h31 h32)
            · intro h33
              refine q_iload_n (pc' := 5) ja_Member_liking_4 rfl rfl ?_
              refine q_aload_n (pc' := 6) ja_Member_liking_5 rfl rfl ?_
              refine q_getf (pc' := 9) (v := .ref (c1 + 1)) ja_Member_liking_6 rfl (f_5_c hc1) ⟨by rw [f_5_k hc1], by decide⟩ (f_5_g4 hc1) ?_
              refine q_alen (pc' := 10) ja_Member_liking_9 rfl (f_a_c (f_5_s4 hc1)) (kd := 13) (l := 61) (f_a_k (f_5_s4 hc1)) (by decide) (v := 61) (by decide) ?_
              refine q_ic_ge (pc' := 13) ja_Member_liking_10 rfl ?_ ?_
              · intro h34
                refine q_iconst (pc' := 23) ja_Member_liking_22 rfl 0 (by decide) ?_
                refine q_iret ja_Member_liking_23 rfl rfl ?_
                show q_W _ _ _ _ 46 [some (.ref c0), some (.ref c1), some (.int a2), some (.int a3), some (.int a4), some (.int 0), none] [.int 0] s
                refine q_istore (pc' := 48) (ls' := [some (.ref c0), some (.ref c1), some (.int a2), some (.int a3), some (.int a4), some (.int 0), some (.int 0)]) ja_Sections_gain_46 rfl ⟨Nat.le_of_ble_eq_true rfl, rfl⟩ rfl ?_
                refine q_iload (pc' := 50) ja_Sections_gain_48 rfl rfl ?_
                refine q_iload (pc' := 52) ja_Sections_gain_50 rfl rfl ?_
                refine q_isub (pc' := 53) ja_Sections_gain_52 rfl ?_
                rw [show ((0 - 0) : Int32) = 0 from by decide]
                exact q_iret ja_Sections_gain_53 rfl rfl (k17 h2 h3 h5 h29 h31 h33 h34)
              · intro h35
                refine q_aload_n (pc' := 14) ja_Member_liking_13 rfl rfl ?_
                refine q_getf (pc' := 17) (v := .ref (c1 + 1)) ja_Member_liking_14 rfl (f_5_c hc1) ⟨by rw [f_5_k hc1], by decide⟩ (f_5_g4 hc1) ?_
                refine q_iload_n (pc' := 18) ja_Member_liking_17 rfl rfl ?_
                refine q_iald (pc' := 19) (v := .int (s (c1 + 1) (s (c0 + 1) a3.toNatClampNeg).toNatClampNeg)) ja_Member_liking_18 rfl (f_a_c (f_5_s4 hc1)) (l := 61) (f_a_k (f_5_s4 hc1)) (q_inr (l := 61) (by decide) h33 h35) (f_i (f_a_k (f_5_s4 hc1)) rfl) ?_
                refine q_goto ja_Member_liking_19 ?_
                refine q_iret ja_Member_liking_23 rfl rfl ?_
                show q_W _ _ _ _ 46 [some (.ref c0), some (.ref c1), some (.int a2), some (.int a3), some (.int a4), some (.int 0), none] [.int (s (c1 + 1) (s (c0 + 1) a3.toNatClampNeg).toNatClampNeg)] s
                refine q_istore (pc' := 48) (ls' := [some (.ref c0), some (.ref c1), some (.int a2), some (.int a3), some (.int a4), some (.int 0), some (.int (s (c1 + 1) (s (c0 + 1) a3.toNatClampNeg).toNatClampNeg))]) ja_Sections_gain_46 rfl ⟨Nat.le_of_ble_eq_true rfl, rfl⟩ rfl ?_
                refine q_iload (pc' := 50) ja_Sections_gain_48 rfl rfl ?_
                refine q_iload (pc' := 52) ja_Sections_gain_50 rfl rfl ?_
                refine q_isub (pc' := 53) ja_Sections_gain_52 rfl ?_
                exact q_iret ja_Sections_gain_53 rfl rfl (k18 h2 h3 h5 h29 h31 h33 h35)
    · intro h36
      refine q_iload_n (pc' := 10) ja_Sections_canChange_9 rfl rfl ?_
      refine q_aload_n (pc' := 11) ja_Sections_canChange_10 rfl rfl ?_
      refine q_getf (pc' := 14) (v := .int (s c0 0)) ja_Sections_canChange_11 rfl (f_8_c hc0) ⟨by rw [f_8_k hc0], by decide⟩ (f_i (f_8_k hc0) rfl) ?_
      refine q_ic_gt (pc' := 17) ja_Sections_canChange_14 rfl ?_ ?_
      · intro h37
        refine q_iconst (pc' := 45) ja_Sections_canChange_44 rfl 0 (by decide) ?_
        refine q_iret ja_Sections_canChange_45 rfl (by decide) ?_
        show q_W _ _ _ _ 6 [some (.ref c0), some (.ref c1), some (.int a2), some (.int a3), some (.int a4), none, none] [.int 0] s
        refine q_if_ne (pc' := 9) ja_Sections_gain_6 rfl (fun h => absurd ((by decide : (0 : Int32) = 0)) h) (fun _ => ?_)
        refine q_iconst (pc' := 10) ja_Sections_gain_9 rfl 0 (by decide) ?_
        exact q_iret ja_Sections_gain_10 rfl rfl (k19 h2 h36 h37)
      · intro h38
        refine q_aload_n (pc' := 18) ja_Sections_canChange_17 rfl rfl ?_
        refine q_getf (pc' := 21) (v := .int (s c0 0)) ja_Sections_canChange_18 rfl (f_8_c hc0) ⟨by rw [f_8_k hc0], by decide⟩ (f_i (f_8_k hc0) rfl) ?_
        refine q_aload_n (pc' := 22) ja_Sections_canChange_21 rfl rfl ?_
        refine q_getf (pc' := 25) (v := .ref (c0 + 1)) ja_Sections_canChange_22 rfl (f_8_c hc0) ⟨by rw [f_8_k hc0], by decide⟩ (f_8_g1 hc0) ?_
        refine q_alen (pc' := 26) ja_Sections_canChange_25 rfl (f_a_c (f_8_s1 hc0)) (kd := 13) (l := 10) (f_a_k (f_8_s1 hc0)) (by decide) (v := 10) (by decide) ?_
        refine q_ic_ge (pc' := 29) ja_Sections_canChange_26 rfl ?_ ?_
        · intro h39
          refine q_iconst (pc' := 45) ja_Sections_canChange_44 rfl 0 (by decide) ?_
          refine q_iret ja_Sections_canChange_45 rfl (by decide) ?_
          show q_W _ _ _ _ 6 [some (.ref c0), some (.ref c1), some (.int a2), some (.int a3), some (.int a4), none, none] [.int 0] s
          refine q_if_ne (pc' := 9) ja_Sections_gain_6 rfl (fun h => absurd ((by decide : (0 : Int32) = 0)) h) (fun _ => ?_)
          refine q_iconst (pc' := 10) ja_Sections_gain_9 rfl 0 (by decide) ?_
          exact q_iret ja_Sections_gain_10 rfl rfl (k20 h2 h36 h38 h39)
        · intro h40
          refine q_goto ja_Sections_canChange_29 ?_
          refine q_iconst (pc' := 41) ja_Sections_canChange_40 rfl 1 (by decide) ?_
          refine q_goto ja_Sections_canChange_41 ?_
          refine q_iret ja_Sections_canChange_45 rfl (by decide) ?_
          show q_W _ _ _ _ 6 [some (.ref c0), some (.ref c1), some (.int a2), some (.int a3), some (.int a4), none, none] [.int 1] s
          refine q_if_ne (pc' := 9) ja_Sections_gain_6 rfl (fun _ => ?_) (fun h => absurd h ((by decide : ¬ (1 : Int32) = 0)))
          refine q_iload_n (pc' := 12) ja_Sections_gain_11 rfl rfl ?_
          refine q_iconst (pc' := 13) ja_Sections_gain_12 rfl 1 (by decide) ?_
          refine q_ic_ne (pc' := 16) ja_Sections_gain_13 rfl ?_ ?_
          · intro h41
            refine q_aload_n (pc' := 21) ja_Sections_gain_20 rfl rfl ?_
            refine q_iload (pc' := 23) ja_Sections_gain_21 rfl rfl ?_
            refine q_virt (pc' := 26) (c := c1) (as := [.int a4]) (r := []) ja_Sections_gain_23 rfl rfl rfl (f_5_c hc1) ⟨by rw [f_5_k hc1], by decide⟩ ?_
            refine q_in (M := jm_Member_liking) rfl (Nat.le_of_ble_eq_true rfl) (ls := [some (.ref c1), some (.int a4)]) rfl ?_
            refine q_iload_n (pc' := 1) ja_Member_liking_0 rfl rfl ?_
            refine q_if_lt (pc' := 4) ja_Member_liking_1 rfl ?_ ?_
            · intro h42
              refine q_iconst (pc' := 23) ja_Member_liking_22 rfl 0 (by decide) ?_
              refine q_iret ja_Member_liking_23 rfl rfl ?_
              show q_W _ _ _ _ 26 [some (.ref c0), some (.ref c1), some (.int a2), some (.int a3), some (.int a4), none, none] [.int 0] s
              refine q_istore (pc' := 28) (ls' := [some (.ref c0), some (.ref c1), some (.int a2), some (.int a3), some (.int a4), some (.int 0), none]) ja_Sections_gain_26 rfl ⟨Nat.le_of_ble_eq_true rfl, rfl⟩ rfl ?_
              refine q_iload_n (pc' := 29) ja_Sections_gain_28 rfl rfl ?_
              refine q_iconst (pc' := 30) ja_Sections_gain_29 rfl 2 (by decide) ?_
              refine q_ic_ne (pc' := 33) ja_Sections_gain_30 rfl (fun h => absurd (h36) h) (fun _ => ?_)
              refine q_iconst (pc' := 34) ja_Sections_gain_33 rfl 0 (by decide) ?_
              refine q_goto ja_Sections_gain_34 ?_
              refine q_istore (pc' := 48) (ls' := [some (.ref c0), some (.ref c1), some (.int a2), some (.int a3), some (.int a4), some (.int 0), some (.int 0)]) ja_Sections_gain_46 rfl ⟨Nat.le_of_ble_eq_true rfl, rfl⟩ rfl ?_
              refine q_iload (pc' := 50) ja_Sections_gain_48 rfl rfl ?_
              refine q_iload (pc' := 52) ja_Sections_gain_50 rfl rfl ?_
              refine q_isub (pc' := 53) ja_Sections_gain_52 rfl ?_
              rw [show ((0 - 0) : Int32) = 0 from by decide]
              exact q_iret ja_Sections_gain_53 rfl rfl (k21 h2 h36 h38 h40 h41 h42)
            · intro h43
              refine q_iload_n (pc' := 5) ja_Member_liking_4 rfl rfl ?_
              refine q_aload_n (pc' := 6) ja_Member_liking_5 rfl rfl ?_
              refine q_getf (pc' := 9) (v := .ref (c1 + 1)) ja_Member_liking_6 rfl (f_5_c hc1) ⟨by rw [f_5_k hc1], by decide⟩ (f_5_g4 hc1) ?_
              refine q_alen (pc' := 10) ja_Member_liking_9 rfl (f_a_c (f_5_s4 hc1)) (kd := 13) (l := 61) (f_a_k (f_5_s4 hc1)) (by decide) (v := 61) (by decide) ?_
              refine q_ic_ge (pc' := 13) ja_Member_liking_10 rfl ?_ ?_
              · intro h44
                refine q_iconst (pc' := 23) ja_Member_liking_22 rfl 0 (by decide) ?_
                refine q_iret ja_Member_liking_23 rfl rfl ?_
                show q_W _ _ _ _ 26 [some (.ref c0), some (.ref c1), some (.int a2), some (.int a3), some (.int a4), none, none] [.int 0] s
                refine q_istore (pc' := 28) (ls' := [some (.ref c0), some (.ref c1), some (.int a2), some (.int a3), some (.int a4), some (.int 0), none]) ja_Sections_gain_26 rfl ⟨Nat.le_of_ble_eq_true rfl, rfl⟩ rfl ?_
                refine q_iload_n (pc' := 29) ja_Sections_gain_28 rfl rfl ?_
                refine q_iconst (pc' := 30) ja_Sections_gain_29 rfl 2 (by decide) ?_
                refine q_ic_ne (pc' := 33) ja_Sections_gain_30 rfl (fun h => absurd (h36) h) (fun _ => ?_)
                refine q_iconst (pc' := 34) ja_Sections_gain_33 rfl 0 (by decide) ?_
                refine q_goto ja_Sections_gain_34 ?_
                refine q_istore (pc' := 48) (ls' := [some (.ref c0), some (.ref c1), some (.int a2), some (.int a3), some (.int a4), some (.int 0), some (.int 0)]) ja_Sections_gain_46 rfl ⟨Nat.le_of_ble_eq_true rfl, rfl⟩ rfl ?_
                refine q_iload (pc' := 50) ja_Sections_gain_48 rfl rfl ?_
                refine q_iload (pc' := 52) ja_Sections_gain_50 rfl rfl ?_
                refine q_isub (pc' := 53) ja_Sections_gain_52 rfl ?_
                rw [show ((0 - 0) : Int32) = 0 from by decide]
                exact q_iret ja_Sections_gain_53 rfl rfl (k22 h2 h36 h38 h40 h41 h43 h44)
              · intro h45
                refine q_aload_n (pc' := 14) ja_Member_liking_13 rfl rfl ?_
                refine q_getf (pc' := 17) (v := .ref (c1 + 1)) ja_Member_liking_14 rfl (f_5_c hc1) ⟨by rw [f_5_k hc1], by decide⟩ (f_5_g4 hc1) ?_
                refine q_iload_n (pc' := 18) ja_Member_liking_17 rfl rfl ?_
                refine q_iald (pc' := 19) (v := .int (s (c1 + 1) a4.toNatClampNeg)) ja_Member_liking_18 rfl (f_a_c (f_5_s4 hc1)) (l := 61) (f_a_k (f_5_s4 hc1)) (q_inr (l := 61) (by decide) h43 h45) (f_i (f_a_k (f_5_s4 hc1)) rfl) ?_
                refine q_goto ja_Member_liking_19 ?_
                refine q_iret ja_Member_liking_23 rfl rfl ?_
                show q_W _ _ _ _ 26 [some (.ref c0), some (.ref c1), some (.int a2), some (.int a3), some (.int a4), none, none] [.int (s (c1 + 1) a4.toNatClampNeg)] s
                refine q_istore (pc' := 28) (ls' := [some (.ref c0), some (.ref c1), some (.int a2), some (.int a3), some (.int a4), some (.int (s (c1 + 1) a4.toNatClampNeg)), none]) ja_Sections_gain_26 rfl ⟨Nat.le_of_ble_eq_true rfl, rfl⟩ rfl ?_
                refine q_iload_n (pc' := 29) ja_Sections_gain_28 rfl rfl ?_
                refine q_iconst (pc' := 30) ja_Sections_gain_29 rfl 2 (by decide) ?_
                refine q_ic_ne (pc' := 33) ja_Sections_gain_30 rfl (fun h => absurd (h36) h) (fun _ => ?_)
                refine q_iconst (pc' := 34) ja_Sections_gain_33 rfl 0 (by decide) ?_
                refine q_goto ja_Sections_gain_34 ?_
                refine q_istore (pc' := 48) (ls' := [some (.ref c0), some (.ref c1), some (.int a2), some (.int a3), some (.int a4), some (.int (s (c1 + 1) a4.toNatClampNeg)), some (.int 0)]) ja_Sections_gain_46 rfl ⟨Nat.le_of_ble_eq_true rfl, rfl⟩ rfl ?_
                refine q_iload (pc' := 50) ja_Sections_gain_48 rfl rfl ?_
                refine q_iload (pc' := 52) ja_Sections_gain_50 rfl rfl ?_
                refine q_isub (pc' := 53) ja_Sections_gain_52 rfl ?_
                exact q_iret ja_Sections_gain_53 rfl rfl (k23 h2 h36 h38 h40 h41 h43 h45)
          · intro h46
            refine q_iconst (pc' := 17) ja_Sections_gain_16 rfl 0 (by decide) ?_
            refine q_goto ja_Sections_gain_17 ?_
            refine q_istore (pc' := 28) (ls' := [some (.ref c0), some (.ref c1), some (.int a2), some (.int a3), some (.int a4), some (.int 0), none]) ja_Sections_gain_26 rfl ⟨Nat.le_of_ble_eq_true rfl, rfl⟩ rfl ?_
            refine q_iload_n (pc' := 29) ja_Sections_gain_28 rfl rfl ?_
            refine q_iconst (pc' := 30) ja_Sections_gain_29 rfl 2 (by decide) ?_
            refine q_ic_ne (pc' := 33) ja_Sections_gain_30 rfl (fun h => absurd (h36) h) (fun _ => ?_)
            refine q_iconst (pc' := 34) ja_Sections_gain_33 rfl 0 (by decide) ?_
            refine q_goto ja_Sections_gain_34 ?_
            refine q_istore (pc' := 48) (ls' := [some (.ref c0), some (.ref c1), some (.int a2), some (.int a3), some (.int a4), some (.int 0), some (.int 0)]) ja_Sections_gain_46 rfl ⟨Nat.le_of_ble_eq_true rfl, rfl⟩ rfl ?_
            refine q_iload (pc' := 50) ja_Sections_gain_48 rfl rfl ?_
            refine q_iload (pc' := 52) ja_Sections_gain_50 rfl rfl ?_
            refine q_isub (pc' := 53) ja_Sections_gain_52 rfl ?_
            rw [show ((0 - 0) : Int32) = 0 from by decide]
            exact q_iret ja_Sections_gain_53 rfl rfl (k24 h2 h36 h38 h40 h46)
set_option maxRecDepth 20000 in
theorem t_Sections_has {G : jv_X} {d : Nat} {B : Option Value → jg_H → Prop} {s : jg_H} {c0 : Nat} (hc0 : f_8 c0) (a1 : Int32) (a2 : Int32)
    (k1 : a2 < 0 → B (some (.int 0)) s)
    (k2 : ¬ a2 < 0 → ¬ a1 = 2 → ¬ a2 < (s c0 0) → B (some (.int 0)) s)
    (k3 : ¬ a2 < 0 → ¬ a1 = 2 → a2 < (s c0 0) → B (some (.int 1)) s)
    (k4 : ¬ a2 < 0 → a1 = 2 → ¬ a2 ≤ (s c0 0) → B (some (.int 0)) s)
    (k5 : ¬ a2 < 0 → a1 = 2 → a2 ≤ (s c0 0) → B (some (.int 1)) s) :
    q_P G (d + 1) 85 [.ref c0, .int a1, .int a2] s B := by
  refine q_in (M := jm_Sections_has) rfl (Nat.le_of_ble_eq_true rfl) (ls := [some (.ref c0), some (.int a1), some (.int a2)]) rfl ?_
  refine q_iload_n (pc' := 1) ja_Sections_has_0 rfl rfl ?_
  refine q_if_lt (pc' := 4) ja_Sections_has_1 rfl ?_ ?_
  · intro h1
    refine q_iconst (pc' := 33) ja_Sections_has_32 rfl 0 (by decide) ?_
    exact q_iret ja_Sections_has_33 rfl (by decide) (k1 h1)
  · intro h2
    refine q_iload_n (pc' := 5) ja_Sections_has_4 rfl rfl ?_
    refine q_iconst (pc' := 6) ja_Sections_has_5 rfl 2 (by decide) ?_
    refine q_ic_ne (pc' := 9) ja_Sections_has_6 rfl ?_ ?_
    · intro h3
      refine q_iload_n (pc' := 21) ja_Sections_has_20 rfl rfl ?_
      refine q_aload_n (pc' := 22) ja_Sections_has_21 rfl rfl ?_
      refine q_getf (pc' := 25) (v := .int (s c0 0)) ja_Sections_has_22 rfl (f_8_c hc0) ⟨by rw [f_8_k hc0], by decide⟩ (f_i (f_8_k hc0) rfl) ?_
      refine q_ic_ge (pc' := 28) ja_Sections_has_25 rfl ?_ ?_
      · intro h4
        refine q_iconst (pc' := 33) ja_Sections_has_32 rfl 0 (by decide) ?_
        exact q_iret ja_Sections_has_33 rfl (by decide) (k2 h2 h3 h4)
      · intro h5
        refine q_iconst (pc' := 29) ja_Sections_has_28 rfl 1 (by decide) ?_
        refine q_goto ja_Sections_has_29 ?_
        exact q_iret ja_Sections_has_33 rfl (by decide) (k3 h2 h3 h5)
    · intro h6
      refine q_iload_n (pc' := 10) ja_Sections_has_9 rfl rfl ?_
      refine q_aload_n (pc' := 11) ja_Sections_has_10 rfl rfl ?_
      refine q_getf (pc' := 14) (v := .int (s c0 0)) ja_Sections_has_11 rfl (f_8_c hc0) ⟨by rw [f_8_k hc0], by decide⟩ (f_i (f_8_k hc0) rfl) ?_
      refine q_ic_gt (pc' := 17) ja_Sections_has_14 rfl ?_ ?_
      · intro h7
        refine q_iconst (pc' := 33) ja_Sections_has_32 rfl 0 (by decide) ?_
        exact q_iret ja_Sections_has_33 rfl (by decide) (k4 h2 h6 h7)
      · intro h8
        refine q_goto ja_Sections_has_17 ?_
        refine q_iconst (pc' := 29) ja_Sections_has_28 rfl 1 (by decide) ?_
        refine q_goto ja_Sections_has_29 ?_
        exact q_iret ja_Sections_has_33 rfl (by decide) (k5 h2 h6 h8)
set_option maxRecDepth 20000 in
theorem t_Sections_isFull {G : jv_X} {d : Nat} {B : Option Value → jg_H → Prop} {s : jg_H} {c0 : Nat} (hc0 : f_8 c0)
    (k1 : (s c0 0) < 10 → B (some (.int 0)) s)
    (k2 : ¬ (s c0 0) < 10 → B (some (.int 1)) s) :
    q_P G (d + 1) 53 [.ref c0] s B := by
  refine q_in (M := jm_Sections_isFull) rfl (Nat.le_of_ble_eq_true rfl) (ls := [some (.ref c0)]) rfl ?_
  refine q_aload_n (pc' := 1) ja_Sections_isFull_0 rfl rfl ?_
  refine q_getf (pc' := 4) (v := .int (s c0 0)) ja_Sections_isFull_1 rfl (f_8_c hc0) ⟨by rw [f_8_k hc0], by decide⟩ (f_i (f_8_k hc0) rfl) ?_
  refine q_aload_n (pc' := 5) ja_Sections_isFull_4 rfl rfl ?_
  refine q_getf (pc' := 8) (v := .ref (c0 + 1)) ja_Sections_isFull_5 rfl (f_8_c hc0) ⟨by rw [f_8_k hc0], by decide⟩ (f_8_g1 hc0) ?_
  refine q_alen (pc' := 9) ja_Sections_isFull_8 rfl (f_a_c (f_8_s1 hc0)) (kd := 13) (l := 10) (f_a_k (f_8_s1 hc0)) (by decide) (v := 10) (by decide) ?_
  refine q_ic_lt (pc' := 12) ja_Sections_isFull_9 rfl ?_ ?_
  · intro h1
    refine q_iconst (pc' := 17) ja_Sections_isFull_16 rfl 0 (by decide) ?_
    exact q_iret ja_Sections_isFull_17 rfl (by decide) (k1 h1)
  · intro h2
    refine q_iconst (pc' := 13) ja_Sections_isFull_12 rfl 1 (by decide) ?_
    refine q_goto ja_Sections_isFull_13 ?_
    exact q_iret ja_Sections_isFull_17 rfl (by decide) (k2 h2)
set_option maxRecDepth 20000 in
theorem t_Sections_putIn {G : jv_X} {d : Nat} {B : Option Value → jg_H → Prop} {s : jg_H} {c0 : Nat} (hc0 : f_8 c0) (a1 : Int32) (a2 : Int32)
    (k1 : a1 < 0 → B none s)
    (k2 : ¬ a1 < 0 → ¬ a1 ≤ (s c0 0) → B none s)
    (k3 : ¬ a1 < 0 → a1 ≤ (s c0 0) → (s c0 0) < 10 → q_W G d jm_Sections_putIn B 30 [some (.ref c0), some (.int a1), some (.int a2), some (.int (s c0 0))] [] s)
    (k4 : ¬ a1 < 0 → a1 ≤ (s c0 0) → ¬ (s c0 0) < 10 → B none s) :
    q_P G (d + 1) 56 [.ref c0, .int a1, .int a2] s B := by
  refine q_in (M := jm_Sections_putIn) rfl (Nat.le_of_ble_eq_true rfl) (ls := [some (.ref c0), some (.int a1), some (.int a2), none]) rfl ?_
  refine q_iload_n (pc' := 1) ja_Sections_putIn_0 rfl rfl ?_
  refine q_if_lt (pc' := 4) ja_Sections_putIn_1 rfl ?_ ?_
  · intro h1
    exact q_vret ja_Sections_putIn_24 rfl (k1 h1)
  · intro h2
    refine q_iload_n (pc' := 5) ja_Sections_putIn_4 rfl rfl ?_
    refine q_aload_n (pc' := 6) ja_Sections_putIn_5 rfl rfl ?_
    refine q_getf (pc' := 9) (v := .int (s c0 0)) ja_Sections_putIn_6 rfl (f_8_c hc0) ⟨by rw [f_8_k hc0], by decide⟩ (f_i (f_8_k hc0) rfl) ?_
    refine q_ic_gt (pc' := 12) ja_Sections_putIn_9 rfl ?_ ?_
    · intro h3
      exact q_vret ja_Sections_putIn_24 rfl (k2 h2 h3)
    · intro h4
      refine q_aload_n (pc' := 13) ja_Sections_putIn_12 rfl rfl ?_
      refine q_getf (pc' := 16) (v := .int (s c0 0)) ja_Sections_putIn_13 rfl (f_8_c hc0) ⟨by rw [f_8_k hc0], by decide⟩ (f_i (f_8_k hc0) rfl) ?_
      refine q_aload_n (pc' := 17) ja_Sections_putIn_16 rfl rfl ?_
      refine q_getf (pc' := 20) (v := .ref (c0 + 1)) ja_Sections_putIn_17 rfl (f_8_c hc0) ⟨by rw [f_8_k hc0], by decide⟩ (f_8_g1 hc0) ?_
      refine q_alen (pc' := 21) ja_Sections_putIn_20 rfl (f_a_c (f_8_s1 hc0)) (kd := 13) (l := 10) (f_a_k (f_8_s1 hc0)) (by decide) (v := 10) (by decide) ?_
      refine q_ic_lt (pc' := 24) ja_Sections_putIn_21 rfl ?_ ?_
      · intro h5
        refine q_aload_n (pc' := 26) ja_Sections_putIn_25 rfl rfl ?_
        refine q_getf (pc' := 29) (v := .int (s c0 0)) ja_Sections_putIn_26 rfl (f_8_c hc0) ⟨by rw [f_8_k hc0], by decide⟩ (f_i (f_8_k hc0) rfl) ?_
        refine q_istore_n (pc' := 30) (ls' := [some (.ref c0), some (.int a1), some (.int a2), some (.int (s c0 0))]) ja_Sections_putIn_29 rfl ⟨Nat.le_of_ble_eq_true rfl, rfl⟩ rfl ?_
        exact (k3 h2 h4 h5)
      · intro h6
        exact q_vret ja_Sections_putIn_24 rfl (k4 h2 h4 h6)
set_option maxRecDepth 20000 in
theorem t_Sections_putIn_30 {G : jv_X} {d : Nat} {B : Option Value → jg_H → Prop} {s : jg_H} {x0 : Nat} (hx0 : f_8 x0) (x1 : Int32) (x2 : Int32) (x3 : Int32)
    (k1 : x3 ≤ x1 → jv_in x1 10 = true)
    (k2 : x3 ≤ x1 → ∀ s1 : jg_H, s1 = jg_up s (x0 + 1) x1.toNatClampNeg x2 → ∀ s2 : jg_H, s2 = jg_up s1 x0 0 ((s1 x0 0) + 1) → B none s2)
    (k3 : ¬ x3 ≤ x1 → jv_in (x3 - 1) 10 = true)
    (k4 : ¬ x3 ≤ x1 → jv_in x3 10 = true)
    (k5 : ¬ x3 ≤ x1 → ∀ s3 : jg_H, s3 = jg_up s (x0 + 1) x3.toNatClampNeg (s (x0 + 1) (x3 - 1).toNatClampNeg) → q_W G d jm_Sections_putIn B 30 [some (.ref x0), some (.int x1), some (.int x2), some (.int (x3 + (-1)))] [] s3) :
    q_W G d jm_Sections_putIn B 30 [some (.ref x0), some (.int x1), some (.int x2), some (.int x3)] [] s := by
  refine q_iload_n (pc' := 31) ja_Sections_putIn_30 rfl rfl ?_
  refine q_iload_n (pc' := 32) ja_Sections_putIn_31 rfl rfl ?_
  refine q_ic_le (pc' := 35) ja_Sections_putIn_32 rfl ?_ ?_
  · intro h1
    refine q_aload_n (pc' := 56) ja_Sections_putIn_55 rfl rfl ?_
    refine q_getf (pc' := 59) (v := .ref (x0 + 1)) ja_Sections_putIn_56 rfl (f_8_c hx0) ⟨by rw [f_8_k hx0], by decide⟩ (f_8_g1 hx0) ?_
    refine q_iload_n (pc' := 60) ja_Sections_putIn_59 rfl rfl ?_
    refine q_iload_n (pc' := 61) ja_Sections_putIn_60 rfl rfl ?_
    refine q_iast (pc' := 62) ja_Sections_putIn_61 rfl (f_a_c (f_8_s1 hx0)) (l := 10) (f_a_k (f_8_s1 hx0)) (k1 h1) ?_
    intro s1 e1
    refine q_aload_n (pc' := 63) ja_Sections_putIn_62 rfl rfl ?_
    refine q_dup (pc' := 64) ja_Sections_putIn_63 rfl rfl ?_
    refine q_getf (pc' := 67) (v := .int (s1 x0 0)) ja_Sections_putIn_64 rfl (f_8_c hx0) ⟨by rw [f_8_k hx0], by decide⟩ (f_i (f_8_k hx0) rfl) ?_
    refine q_iconst (pc' := 68) ja_Sections_putIn_67 rfl 1 (by decide) ?_
    refine q_iadd (pc' := 69) ja_Sections_putIn_68 rfl ?_
    refine q_putf (pc' := 72) ja_Sections_putIn_69 rfl (f_8_c hx0) (by rw [f_8_k hx0]) rfl (by rw [f_8_k hx0]; rfl) ?_
    intro s2 e2
    exact q_vret ja_Sections_putIn_72 rfl (k2 h1 s1 e1 s2 e2)
  · intro h2
    refine q_aload_n (pc' := 36) ja_Sections_putIn_35 rfl rfl ?_
    refine q_getf (pc' := 39) (v := .ref (x0 + 1)) ja_Sections_putIn_36 rfl (f_8_c hx0) ⟨by rw [f_8_k hx0], by decide⟩ (f_8_g1 hx0) ?_
    refine q_iload_n (pc' := 40) ja_Sections_putIn_39 rfl rfl ?_
    refine q_aload_n (pc' := 41) ja_Sections_putIn_40 rfl rfl ?_
    refine q_getf (pc' := 44) (v := .ref (x0 + 1)) ja_Sections_putIn_41 rfl (f_8_c hx0) ⟨by rw [f_8_k hx0], by decide⟩ (f_8_g1 hx0) ?_
    refine q_iload_n (pc' := 45) ja_Sections_putIn_44 rfl rfl ?_
    refine q_iconst (pc' := 46) ja_Sections_putIn_45 rfl 1 (by decide) ?_
    refine q_isub (pc' := 47) ja_Sections_putIn_46 rfl ?_
    refine q_iald (pc' := 48) (v := .int (s (x0 + 1) (x3 - 1).toNatClampNeg)) ja_Sections_putIn_47 rfl (f_a_c (f_8_s1 hx0)) (l := 10) (f_a_k (f_8_s1 hx0)) (k3 h2) (f_i (f_a_k (f_8_s1 hx0)) rfl) ?_
    refine q_iast (pc' := 49) ja_Sections_putIn_48 rfl (f_a_c (f_8_s1 hx0)) (l := 10) (f_a_k (f_8_s1 hx0)) (k4 h2) ?_
    intro s3 e3
    refine q_iinc (pc' := 52) (ls' := [some (.ref x0), some (.int x1), some (.int x2), some (.int (x3 + (-1)))]) ja_Sections_putIn_49 rfl rfl (x3 + (-1)) rfl ⟨Nat.le_of_ble_eq_true rfl, rfl⟩ rfl ?_
    refine q_goto ja_Sections_putIn_52 ?_
    exact (k5 h2 s3 e3)
set_option maxRecDepth 20000 in
theorem t_Sections_takeOut {G : jv_X} {d : Nat} {B : Option Value → jg_H → Prop} {s : jg_H} {c0 : Nat} (hc0 : f_8 c0) (a1 : Int32)
    (k1 : a1 < 0 → B none s)
    (k2 : ¬ a1 < 0 → ¬ a1 < (s c0 0) → B none s)
    (k3 : ¬ a1 < 0 → a1 < (s c0 0) → (s c0 0) ≤ 10 → q_W G d jm_Sections_takeOut B 27 [some (.ref c0), some (.int a1), some (.int a1)] [] s)
    (k4 : ¬ a1 < 0 → a1 < (s c0 0) → ¬ (s c0 0) ≤ 10 → B none s) :
    q_P G (d + 1) 57 [.ref c0, .int a1] s B := by
  refine q_in (M := jm_Sections_takeOut) rfl (Nat.le_of_ble_eq_true rfl) (ls := [some (.ref c0), some (.int a1), none]) rfl ?_
  refine q_iload_n (pc' := 1) ja_Sections_takeOut_0 rfl rfl ?_
  refine q_if_lt (pc' := 4) ja_Sections_takeOut_1 rfl ?_ ?_
  · intro h1
    exact q_vret ja_Sections_takeOut_24 rfl (k1 h1)
  · intro h2
    refine q_iload_n (pc' := 5) ja_Sections_takeOut_4 rfl rfl ?_
    refine q_aload_n (pc' := 6) ja_Sections_takeOut_5 rfl rfl ?_
    refine q_getf (pc' := 9) (v := .int (s c0 0)) ja_Sections_takeOut_6 rfl (f_8_c hc0) ⟨by rw [f_8_k hc0], by decide⟩ (f_i (f_8_k hc0) rfl) ?_
    refine q_ic_ge (pc' := 12) ja_Sections_takeOut_9 rfl ?_ ?_
    · intro h3
      exact q_vret ja_Sections_takeOut_24 rfl (k2 h2 h3)
    · intro h4
      refine q_aload_n (pc' := 13) ja_Sections_takeOut_12 rfl rfl ?_
      refine q_getf (pc' := 16) (v := .int (s c0 0)) ja_Sections_takeOut_13 rfl (f_8_c hc0) ⟨by rw [f_8_k hc0], by decide⟩ (f_i (f_8_k hc0) rfl) ?_
      refine q_aload_n (pc' := 17) ja_Sections_takeOut_16 rfl rfl ?_
      refine q_getf (pc' := 20) (v := .ref (c0 + 1)) ja_Sections_takeOut_17 rfl (f_8_c hc0) ⟨by rw [f_8_k hc0], by decide⟩ (f_8_g1 hc0) ?_
      refine q_alen (pc' := 21) ja_Sections_takeOut_20 rfl (f_a_c (f_8_s1 hc0)) (kd := 13) (l := 10) (f_a_k (f_8_s1 hc0)) (by decide) (v := 10) (by decide) ?_
      refine q_ic_le (pc' := 24) ja_Sections_takeOut_21 rfl ?_ ?_
      · intro h5
        refine q_iload_n (pc' := 26) ja_Sections_takeOut_25 rfl rfl ?_
        refine q_istore_n (pc' := 27) (ls' := [some (.ref c0), some (.int a1), some (.int a1)]) ja_Sections_takeOut_26 rfl ⟨Nat.le_of_ble_eq_true rfl, rfl⟩ rfl ?_
        exact (k3 h2 h4 h5)
      · intro h6
        exact q_vret ja_Sections_takeOut_24 rfl (k4 h2 h4 h6)
set_option maxRecDepth 20000 in
theorem t_Sections_takeOut_27 {G : jv_X} {d : Nat} {B : Option Value → jg_H → Prop} {s : jg_H} {x0 : Nat} (hx0 : f_8 x0) (x1 : Int32) (x2 : Int32)
    (k1 : ¬ (x2 + 1) < (s x0 0) → ∀ s1 : jg_H, s1 = jg_up s x0 0 ((s x0 0) - 1) → B none s1)
    (k2 : (x2 + 1) < (s x0 0) → jv_in (x2 + 1) 10 = true)
    (k3 : (x2 + 1) < (s x0 0) → jv_in x2 10 = true)
    (k4 : (x2 + 1) < (s x0 0) → ∀ s2 : jg_H, s2 = jg_up s (x0 + 1) x2.toNatClampNeg (s (x0 + 1) (x2 + 1).toNatClampNeg) → q_W G d jm_Sections_takeOut B 27 [some (.ref x0), some (.int x1), some (.int (x2 + 1))] [] s2) :
    q_W G d jm_Sections_takeOut B 27 [some (.ref x0), some (.int x1), some (.int x2)] [] s := by
  refine q_iload_n (pc' := 28) ja_Sections_takeOut_27 rfl rfl ?_
  refine q_iconst (pc' := 29) ja_Sections_takeOut_28 rfl 1 (by decide) ?_
  refine q_iadd (pc' := 30) ja_Sections_takeOut_29 rfl ?_
  refine q_aload_n (pc' := 31) ja_Sections_takeOut_30 rfl rfl ?_
  refine q_getf (pc' := 34) (v := .int (s x0 0)) ja_Sections_takeOut_31 rfl (f_8_c hx0) ⟨by rw [f_8_k hx0], by decide⟩ (f_i (f_8_k hx0) rfl) ?_
  refine q_ic_ge (pc' := 37) ja_Sections_takeOut_34 rfl ?_ ?_
  · intro h1
    refine q_aload_n (pc' := 58) ja_Sections_takeOut_57 rfl rfl ?_
    refine q_dup (pc' := 59) ja_Sections_takeOut_58 rfl rfl ?_
    refine q_getf (pc' := 62) (v := .int (s x0 0)) ja_Sections_takeOut_59 rfl (f_8_c hx0) ⟨by rw [f_8_k hx0], by decide⟩ (f_i (f_8_k hx0) rfl) ?_
    refine q_iconst (pc' := 63) ja_Sections_takeOut_62 rfl 1 (by decide) ?_
    refine q_isub (pc' := 64) ja_Sections_takeOut_63 rfl ?_
    refine q_putf (pc' := 67) ja_Sections_takeOut_64 rfl (f_8_c hx0) (by rw [f_8_k hx0]) rfl (by rw [f_8_k hx0]; rfl) ?_
    intro s1 e1
    exact q_vret ja_Sections_takeOut_67 rfl (k1 h1 s1 e1)
  · intro h2
    refine q_aload_n (pc' := 38) ja_Sections_takeOut_37 rfl rfl ?_
    refine q_getf (pc' := 41) (v := .ref (x0 + 1)) ja_Sections_takeOut_38 rfl (f_8_c hx0) ⟨by rw [f_8_k hx0], by decide⟩ (f_8_g1 hx0) ?_
    refine q_iload_n (pc' := 42) ja_Sections_takeOut_41 rfl rfl ?_
    refine q_aload_n (pc' := 43) ja_Sections_takeOut_42 rfl rfl ?_
    refine q_getf (pc' := 46) (v := .ref (x0 + 1)) ja_Sections_takeOut_43 rfl (f_8_c hx0) ⟨by rw [f_8_k hx0], by decide⟩ (f_8_g1 hx0) ?_
    refine q_iload_n (pc' := 47) ja_Sections_takeOut_46 rfl rfl ?_
    refine q_iconst (pc' := 48) ja_Sections_takeOut_47 rfl 1 (by decide) ?_
    refine q_iadd (pc' := 49) ja_Sections_takeOut_48 rfl ?_
    refine q_iald (pc' := 50) (v := .int (s (x0 + 1) (x2 + 1).toNatClampNeg)) ja_Sections_takeOut_49 rfl (f_a_c (f_8_s1 hx0)) (l := 10) (f_a_k (f_8_s1 hx0)) (k2 h2) (f_i (f_a_k (f_8_s1 hx0)) rfl) ?_
    refine q_iast (pc' := 51) ja_Sections_takeOut_50 rfl (f_a_c (f_8_s1 hx0)) (l := 10) (f_a_k (f_8_s1 hx0)) (k3 h2) ?_
    intro s2 e2
    refine q_iinc (pc' := 54) (ls' := [some (.ref x0), some (.int x1), some (.int (x2 + 1))]) ja_Sections_takeOut_51 rfl rfl (x2 + 1) rfl ⟨Nat.le_of_ble_eq_true rfl, rfl⟩ rfl ?_
    refine q_goto ja_Sections_takeOut_54 ?_
    exact (k4 h2 s2 e2)
set_option maxRecDepth 20000 in
theorem t_Sections_wordAt {G : jv_X} {d : Nat} {B : Option Value → jg_H → Prop} {s : jg_H} {c0 : Nat} (hc0 : f_8 c0) (a1 : Int32)
    (k1 : a1 < 0 → B (some (.int (-1))) s)
    (k2 : ¬ a1 < 0 → ¬ a1 < (s c0 0) → B (some (.int (-1))) s)
    (k3 : ¬ a1 < 0 → a1 < (s c0 0) → ¬ a1 < 10 → B (some (.int (-1))) s)
    (k4 : ¬ a1 < 0 → a1 < (s c0 0) → a1 < 10 → B (some (.int (s (c0 + 1) a1.toNatClampNeg))) s) :
    q_P G (d + 1) 62 [.ref c0, .int a1] s B := by
  refine q_in (M := jm_Sections_wordAt) rfl (Nat.le_of_ble_eq_true rfl) (ls := [some (.ref c0), some (.int a1)]) rfl ?_
  refine q_iload_n (pc' := 1) ja_Sections_wordAt_0 rfl rfl ?_
  refine q_if_lt (pc' := 4) ja_Sections_wordAt_1 rfl ?_ ?_
  · intro h1
    refine q_iconst (pc' := 31) ja_Sections_wordAt_30 rfl (-1) (by decide) ?_
    exact q_iret ja_Sections_wordAt_31 rfl rfl (k1 h1)
  · intro h2
    refine q_iload_n (pc' := 5) ja_Sections_wordAt_4 rfl rfl ?_
    refine q_aload_n (pc' := 6) ja_Sections_wordAt_5 rfl rfl ?_
    refine q_getf (pc' := 9) (v := .int (s c0 0)) ja_Sections_wordAt_6 rfl (f_8_c hc0) ⟨by rw [f_8_k hc0], by decide⟩ (f_i (f_8_k hc0) rfl) ?_
    refine q_ic_ge (pc' := 12) ja_Sections_wordAt_9 rfl ?_ ?_
    · intro h3
      refine q_iconst (pc' := 31) ja_Sections_wordAt_30 rfl (-1) (by decide) ?_
      exact q_iret ja_Sections_wordAt_31 rfl rfl (k2 h2 h3)
    · intro h4
      refine q_iload_n (pc' := 13) ja_Sections_wordAt_12 rfl rfl ?_
      refine q_aload_n (pc' := 14) ja_Sections_wordAt_13 rfl rfl ?_
      refine q_getf (pc' := 17) (v := .ref (c0 + 1)) ja_Sections_wordAt_14 rfl (f_8_c hc0) ⟨by rw [f_8_k hc0], by decide⟩ (f_8_g1 hc0) ?_
      refine q_alen (pc' := 18) ja_Sections_wordAt_17 rfl (f_a_c (f_8_s1 hc0)) (kd := 13) (l := 10) (f_a_k (f_8_s1 hc0)) (by decide) (v := 10) (by decide) ?_
      refine q_ic_ge (pc' := 21) ja_Sections_wordAt_18 rfl ?_ ?_
      · intro h5
        refine q_iconst (pc' := 31) ja_Sections_wordAt_30 rfl (-1) (by decide) ?_
        exact q_iret ja_Sections_wordAt_31 rfl rfl (k3 h2 h4 h5)
      · intro h6
        refine q_aload_n (pc' := 22) ja_Sections_wordAt_21 rfl rfl ?_
        refine q_getf (pc' := 25) (v := .ref (c0 + 1)) ja_Sections_wordAt_22 rfl (f_8_c hc0) ⟨by rw [f_8_k hc0], by decide⟩ (f_8_g1 hc0) ?_
        refine q_iload_n (pc' := 26) ja_Sections_wordAt_25 rfl rfl ?_
        refine q_iald (pc' := 27) (v := .int (s (c0 + 1) a1.toNatClampNeg)) ja_Sections_wordAt_26 rfl (f_a_c (f_8_s1 hc0)) (l := 10) (f_a_k (f_8_s1 hc0)) (q_inr (l := 10) (by decide) h2 h6) (f_i (f_a_k (f_8_s1 hc0)) rfl) ?_
        refine q_goto ja_Sections_wordAt_27 ?_
        exact q_iret ja_Sections_wordAt_31 rfl rfl (k4 h2 h4 h6)
set_option maxRecDepth 20000 in
theorem t_Sections_worthTo {G : jv_X} {d : Nat} {B : Option Value → jg_H → Prop} {s : jg_H} {c0 : Nat} (hc0 : f_8 c0) {c1 : Nat} (hc1 : f_5 c1)
    (k1 : q_W G (d + 1) jm_Sections_worthTo B 4 [some (.ref c0), some (.ref c1), some (.int 0), some (.int 0)] [] s) :
    q_P G (d + 2) 64 [.ref c0, .ref c1] s B := by
  refine q_in (M := jm_Sections_worthTo) rfl (Nat.le_of_ble_eq_true rfl) (ls := [some (.ref c0), some (.ref c1), none, none]) rfl ?_
  refine q_iconst (pc' := 1) ja_Sections_worthTo_0 rfl 0 (by decide) ?_
  refine q_istore_n (pc' := 2) (ls' := [some (.ref c0), some (.ref c1), some (.int 0), none]) ja_Sections_worthTo_1 rfl ⟨Nat.le_of_ble_eq_true rfl, rfl⟩ rfl ?_
  refine q_iconst (pc' := 3) ja_Sections_worthTo_2 rfl 0 (by decide) ?_
  refine q_istore_n (pc' := 4) (ls' := [some (.ref c0), some (.ref c1), some (.int 0), some (.int 0)]) ja_Sections_worthTo_3 rfl ⟨Nat.le_of_ble_eq_true rfl, rfl⟩ rfl ?_
  exact k1
set_option maxRecDepth 20000 in
theorem t_Sections_worthTo_4 {G : jv_X} {d : Nat} {B : Option Value → jg_H → Prop} {s : jg_H} {x0 : Nat} (hx0 : f_8 x0) {x1 : Nat} (hx1 : f_5 x1) (x2 : Int32) (x3 : Int32)
    (k1 : ¬ x3 < (s x0 0) → B (some (.int x2)) s)
    (k2 : x3 < (s x0 0) → ¬ x3 < 10 → B (some (.int x2)) s)
    (k3 : x3 < (s x0 0) → x3 < 10 → jv_in x3 10 = true)
    (k4 : x3 < (s x0 0) → x3 < 10 → (s (x0 + 1) x3.toNatClampNeg) < 0 → q_W G (d + 1) jm_Sections_worthTo B 4 [some (.ref x0), some (.ref x1), some (.int (x2 + 0)), some (.int (x3 + 1))] [] s)
    (k5 : x3 < (s x0 0) → x3 < 10 → ¬ (s (x0 + 1) x3.toNatClampNeg) < 0 → ¬ (s (x0 + 1) x3.toNatClampNeg) < 61 → q_W G (d + 1) jm_Sections_worthTo B 4 [some (.ref x0), some (.ref x1), some (.int (x2 + 0)), some (.int (x3 + 1))] [] s)
    (k6 : x3 < (s x0 0) → x3 < 10 → ¬ (s (x0 + 1) x3.toNatClampNeg) < 0 → (s (x0 + 1) x3.toNatClampNeg) < 61 → q_W G (d + 1) jm_Sections_worthTo B 4 [some (.ref x0), some (.ref x1), some (.int (x2 + (s (x1 + 1) (s (x0 + 1) x3.toNatClampNeg).toNatClampNeg))), some (.int (x3 + 1))] [] s) :
    q_W G (d + 1) jm_Sections_worthTo B 4 [some (.ref x0), some (.ref x1), some (.int x2), some (.int x3)] [] s := by
  refine q_iload_n (pc' := 5) ja_Sections_worthTo_4 rfl rfl ?_
  refine q_aload_n (pc' := 6) ja_Sections_worthTo_5 rfl rfl ?_
  refine q_getf (pc' := 9) (v := .int (s x0 0)) ja_Sections_worthTo_6 rfl (f_8_c hx0) ⟨by rw [f_8_k hx0], by decide⟩ (f_i (f_8_k hx0) rfl) ?_
  refine q_ic_ge (pc' := 12) ja_Sections_worthTo_9 rfl ?_ ?_
  · intro h1
    refine q_iload_n (pc' := 41) ja_Sections_worthTo_40 rfl rfl ?_
    exact q_iret ja_Sections_worthTo_41 rfl rfl (k1 h1)
  · intro h2
    refine q_iload_n (pc' := 13) ja_Sections_worthTo_12 rfl rfl ?_
    refine q_aload_n (pc' := 14) ja_Sections_worthTo_13 rfl rfl ?_
    refine q_getf (pc' := 17) (v := .ref (x0 + 1)) ja_Sections_worthTo_14 rfl (f_8_c hx0) ⟨by rw [f_8_k hx0], by decide⟩ (f_8_g1 hx0) ?_
    refine q_alen (pc' := 18) ja_Sections_worthTo_17 rfl (f_a_c (f_8_s1 hx0)) (kd := 13) (l := 10) (f_a_k (f_8_s1 hx0)) (by decide) (v := 10) (by decide) ?_
    refine q_ic_ge (pc' := 21) ja_Sections_worthTo_18 rfl ?_ ?_
    · intro h3
      refine q_iload_n (pc' := 41) ja_Sections_worthTo_40 rfl rfl ?_
      exact q_iret ja_Sections_worthTo_41 rfl rfl (k2 h2 h3)
    · intro h4
      refine q_iload_n (pc' := 22) ja_Sections_worthTo_21 rfl rfl ?_
      refine q_aload_n (pc' := 23) ja_Sections_worthTo_22 rfl rfl ?_
      refine q_aload_n (pc' := 24) ja_Sections_worthTo_23 rfl rfl ?_
      refine q_getf (pc' := 27) (v := .ref (x0 + 1)) ja_Sections_worthTo_24 rfl (f_8_c hx0) ⟨by rw [f_8_k hx0], by decide⟩ (f_8_g1 hx0) ?_
      refine q_iload_n (pc' := 28) ja_Sections_worthTo_27 rfl rfl ?_
      refine q_iald (pc' := 29) (v := .int (s (x0 + 1) x3.toNatClampNeg)) ja_Sections_worthTo_28 rfl (f_a_c (f_8_s1 hx0)) (l := 10) (f_a_k (f_8_s1 hx0)) (k3 h2 h4) (f_i (f_a_k (f_8_s1 hx0)) rfl) ?_
      refine q_virt (pc' := 32) (c := x1) (as := [.int (s (x0 + 1) x3.toNatClampNeg)]) (r := [.int x2]) ja_Sections_worthTo_29 rfl rfl rfl (f_5_c hx1) ⟨by rw [f_5_k hx1], by decide⟩ ?_
      refine q_in (M := jm_Member_liking) rfl (Nat.le_of_ble_eq_true rfl) (ls := [some (.ref x1), some (.int (s (x0 + 1) x3.toNatClampNeg))]) rfl ?_
      refine q_iload_n (pc' := 1) ja_Member_liking_0 rfl rfl ?_
      refine q_if_lt (pc' := 4) ja_Member_liking_1 rfl ?_ ?_
      · intro h5
        refine q_iconst (pc' := 23) ja_Member_liking_22 rfl 0 (by decide) ?_
        refine q_iret ja_Member_liking_23 rfl rfl ?_
        show q_W _ _ _ _ 32 [some (.ref x0), some (.ref x1), some (.int x2), some (.int x3)] [.int 0, .int x2] s
        refine q_iadd (pc' := 33) ja_Sections_worthTo_32 rfl ?_
        refine q_istore_n (pc' := 34) (ls' := [some (.ref x0), some (.ref x1), some (.int (x2 + 0)), some (.int x3)]) ja_Sections_worthTo_33 rfl ⟨Nat.le_of_ble_eq_true rfl, rfl⟩ rfl ?_
        refine q_iinc (pc' := 37) (ls' := [some (.ref x0), some (.ref x1), some (.int (x2 + 0)), some (.int (x3 + 1))]) ja_Sections_worthTo_34 rfl rfl (x3 + 1) rfl ⟨Nat.le_of_ble_eq_true rfl, rfl⟩ rfl ?_
        refine q_goto ja_Sections_worthTo_37 ?_
        exact (k4 h2 h4 h5)
      · intro h6
        refine q_iload_n (pc' := 5) ja_Member_liking_4 rfl rfl ?_
        refine q_aload_n (pc' := 6) ja_Member_liking_5 rfl rfl ?_
        refine q_getf (pc' := 9) (v := .ref (x1 + 1)) ja_Member_liking_6 rfl (f_5_c hx1) ⟨by rw [f_5_k hx1], by decide⟩ (f_5_g4 hx1) ?_
        refine q_alen (pc' := 10) ja_Member_liking_9 rfl (f_a_c (f_5_s4 hx1)) (kd := 13) (l := 61) (f_a_k (f_5_s4 hx1)) (by decide) (v := 61) (by decide) ?_
        refine q_ic_ge (pc' := 13) ja_Member_liking_10 rfl ?_ ?_
        · intro h7
          refine q_iconst (pc' := 23) ja_Member_liking_22 rfl 0 (by decide) ?_
          refine q_iret ja_Member_liking_23 rfl rfl ?_
          show q_W _ _ _ _ 32 [some (.ref x0), some (.ref x1), some (.int x2), some (.int x3)] [.int 0, .int x2] s
          refine q_iadd (pc' := 33) ja_Sections_worthTo_32 rfl ?_
          refine q_istore_n (pc' := 34) (ls' := [some (.ref x0), some (.ref x1), some (.int (x2 + 0)), some (.int x3)]) ja_Sections_worthTo_33 rfl ⟨Nat.le_of_ble_eq_true rfl, rfl⟩ rfl ?_
          refine q_iinc (pc' := 37) (ls' := [some (.ref x0), some (.ref x1), some (.int (x2 + 0)), some (.int (x3 + 1))]) ja_Sections_worthTo_34 rfl rfl (x3 + 1) rfl ⟨Nat.le_of_ble_eq_true rfl, rfl⟩ rfl ?_
          refine q_goto ja_Sections_worthTo_37 ?_
          exact (k5 h2 h4 h6 h7)
        · intro h8
          refine q_aload_n (pc' := 14) ja_Member_liking_13 rfl rfl ?_
          refine q_getf (pc' := 17) (v := .ref (x1 + 1)) ja_Member_liking_14 rfl (f_5_c hx1) ⟨by rw [f_5_k hx1], by decide⟩ (f_5_g4 hx1) ?_
          refine q_iload_n (pc' := 18) ja_Member_liking_17 rfl rfl ?_
          refine q_iald (pc' := 19) (v := .int (s (x1 + 1) (s (x0 + 1) x3.toNatClampNeg).toNatClampNeg)) ja_Member_liking_18 rfl (f_a_c (f_5_s4 hx1)) (l := 61) (f_a_k (f_5_s4 hx1)) (q_inr (l := 61) (by decide) h6 h8) (f_i (f_a_k (f_5_s4 hx1)) rfl) ?_
          refine q_goto ja_Member_liking_19 ?_
          refine q_iret ja_Member_liking_23 rfl rfl ?_
          show q_W _ _ _ _ 32 [some (.ref x0), some (.ref x1), some (.int x2), some (.int x3)] [.int (s (x1 + 1) (s (x0 + 1) x3.toNatClampNeg).toNatClampNeg), .int x2] s
          refine q_iadd (pc' := 33) ja_Sections_worthTo_32 rfl ?_
          refine q_istore_n (pc' := 34) (ls' := [some (.ref x0), some (.ref x1), some (.int (x2 + (s (x1 + 1) (s (x0 + 1) x3.toNatClampNeg).toNatClampNeg))), some (.int x3)]) ja_Sections_worthTo_33 rfl ⟨Nat.le_of_ble_eq_true rfl, rfl⟩ rfl ?_
          refine q_iinc (pc' := 37) (ls' := [some (.ref x0), some (.ref x1), some (.int (x2 + (s (x1 + 1) (s (x0 + 1) x3.toNatClampNeg).toNatClampNeg))), some (.int (x3 + 1))]) ja_Sections_worthTo_34 rfl rfl (x3 + 1) rfl ⟨Nat.le_of_ble_eq_true rfl, rfl⟩ rfl ?_
          refine q_goto ja_Sections_worthTo_37 ?_
          exact (k6 h2 h4 h6 h8)
set_option maxRecDepth 20000 in
theorem t_Text_add {G : jv_X} {d : Nat} {B : Option Value → jg_H → Prop} {s : jg_H} {c0 : Nat} (hc0 : f_9 c0) (a1 : Int32)
    (k1 : (s c0 1) < 0 → B none s)
    (k2 : ¬ (s c0 1) < 0 → (s c0 1) < 200 → ∀ s1 : jg_H, s1 = jg_up s (c0 + 1) (s c0 1).toNatClampNeg a1 → ∀ s2 : jg_H, s2 = jg_up s1 c0 1 ((s1 c0 1) + 1) → B none s2)
    (k3 : ¬ (s c0 1) < 0 → ¬ (s c0 1) < 200 → B none s) :
    q_P G (d + 1) 35 [.ref c0, .int a1] s B := by
  refine q_in (M := jm_Text_add) rfl (Nat.le_of_ble_eq_true rfl) (ls := [some (.ref c0), some (.int a1)]) rfl ?_
  refine q_aload_n (pc' := 1) ja_Text_add_0 rfl rfl ?_
  refine q_getf (pc' := 4) (v := .int (s c0 1)) ja_Text_add_1 rfl (f_9_c hc0) ⟨by rw [f_9_k hc0], by decide⟩ (f_i (f_9_k hc0) rfl) ?_
  refine q_if_lt (pc' := 7) ja_Text_add_4 rfl ?_ ?_
  · intro h1
    exact q_vret ja_Text_add_19 rfl (k1 h1)
  · intro h2
    refine q_aload_n (pc' := 8) ja_Text_add_7 rfl rfl ?_
    refine q_getf (pc' := 11) (v := .int (s c0 1)) ja_Text_add_8 rfl (f_9_c hc0) ⟨by rw [f_9_k hc0], by decide⟩ (f_i (f_9_k hc0) rfl) ?_
    refine q_aload_n (pc' := 12) ja_Text_add_11 rfl rfl ?_
    refine q_getf (pc' := 15) (v := .ref (c0 + 1)) ja_Text_add_12 rfl (f_9_c hc0) ⟨by rw [f_9_k hc0], by decide⟩ (f_9_g0 hc0) ?_
    refine q_alen (pc' := 16) ja_Text_add_15 rfl (f_a_c (f_9_s0 hc0)) (kd := 13) (l := 200) (f_a_k (f_9_s0 hc0)) (by decide) (v := 200) (by decide) ?_
    refine q_ic_lt (pc' := 19) ja_Text_add_16 rfl ?_ ?_
    · intro h3
      refine q_aload_n (pc' := 21) ja_Text_add_20 rfl rfl ?_
      refine q_getf (pc' := 24) (v := .ref (c0 + 1)) ja_Text_add_21 rfl (f_9_c hc0) ⟨by rw [f_9_k hc0], by decide⟩ (f_9_g0 hc0) ?_
      refine q_aload_n (pc' := 25) ja_Text_add_24 rfl rfl ?_
      refine q_getf (pc' := 28) (v := .int (s c0 1)) ja_Text_add_25 rfl (f_9_c hc0) ⟨by rw [f_9_k hc0], by decide⟩ (f_i (f_9_k hc0) rfl) ?_
      refine q_iload_n (pc' := 29) ja_Text_add_28 rfl rfl ?_
      refine q_iast (pc' := 30) ja_Text_add_29 rfl (f_a_c (f_9_s0 hc0)) (l := 200) (f_a_k (f_9_s0 hc0)) (q_inr (l := 200) (by decide) h2 h3) ?_
      intro s1 e1
      refine q_aload_n (pc' := 31) ja_Text_add_30 rfl rfl ?_
      refine q_dup (pc' := 32) ja_Text_add_31 rfl rfl ?_
      refine q_getf (pc' := 35) (v := .int (s1 c0 1)) ja_Text_add_32 rfl (f_9_c hc0) ⟨by rw [f_9_k hc0], by decide⟩ (f_i (f_9_k hc0) rfl) ?_
      refine q_iconst (pc' := 36) ja_Text_add_35 rfl 1 (by decide) ?_
      refine q_iadd (pc' := 37) ja_Text_add_36 rfl ?_
      refine q_putf (pc' := 40) ja_Text_add_37 rfl (f_9_c hc0) (by rw [f_9_k hc0]) rfl (by rw [f_9_k hc0]; rfl) ?_
      intro s2 e2
      exact q_vret ja_Text_add_40 rfl (k2 h2 h3 s1 e1 s2 e2)
    · intro h4
      exact q_vret ja_Text_add_19 rfl (k3 h2 h4)
set_option maxRecDepth 20000 in
theorem t_Tray_has {G : jv_X} {d : Nat} {B : Option Value → jg_H → Prop} {s : jg_H} {c0 : Nat} (hc0 : f_10 c0) (a1 : Int32)
    (k1 : a1 < 0 → B (some (.int 0)) s)
    (k2 : ¬ a1 < 0 → ¬ a1 < (s c0 0) → B (some (.int 0)) s)
    (k3 : ¬ a1 < 0 → a1 < (s c0 0) → ¬ a1 < 40 → B (some (.int 0)) s)
    (k4 : ¬ a1 < 0 → a1 < (s c0 0) → a1 < 40 → B (some (.int 1)) s) :
    q_P G (d + 1) 128 [.ref c0, .int a1] s B := by
  refine q_in (M := jm_Tray_has) rfl (Nat.le_of_ble_eq_true rfl) (ls := [some (.ref c0), some (.int a1)]) rfl ?_
  refine q_iload_n (pc' := 1) ja_Tray_has_0 rfl rfl ?_
  refine q_if_lt (pc' := 4) ja_Tray_has_1 rfl ?_ ?_
  · intro h1
    refine q_iconst (pc' := 26) ja_Tray_has_25 rfl 0 (by decide) ?_
    exact q_iret ja_Tray_has_26 rfl (by decide) (k1 h1)
  · intro h2
    refine q_iload_n (pc' := 5) ja_Tray_has_4 rfl rfl ?_
    refine q_aload_n (pc' := 6) ja_Tray_has_5 rfl rfl ?_
    refine q_getf (pc' := 9) (v := .int (s c0 0)) ja_Tray_has_6 rfl (f_10_c hc0) ⟨by rw [f_10_k hc0], by decide⟩ (f_i (f_10_k hc0) rfl) ?_
    refine q_ic_ge (pc' := 12) ja_Tray_has_9 rfl ?_ ?_
    · intro h3
      refine q_iconst (pc' := 26) ja_Tray_has_25 rfl 0 (by decide) ?_
      exact q_iret ja_Tray_has_26 rfl (by decide) (k2 h2 h3)
    · intro h4
      refine q_iload_n (pc' := 13) ja_Tray_has_12 rfl rfl ?_
      refine q_aload_n (pc' := 14) ja_Tray_has_13 rfl rfl ?_
      refine q_getf (pc' := 17) (v := .ref (c0 + 1)) ja_Tray_has_14 rfl (f_10_c hc0) ⟨by rw [f_10_k hc0], by decide⟩ (f_10_g1 hc0) ?_
      refine q_alen (pc' := 18) ja_Tray_has_17 rfl (f_a_c (f_10_s1 hc0)) (kd := 13) (l := 40) (f_a_k (f_10_s1 hc0)) (by decide) (v := 40) (by decide) ?_
      refine q_ic_ge (pc' := 21) ja_Tray_has_18 rfl ?_ ?_
      · intro h5
        refine q_iconst (pc' := 26) ja_Tray_has_25 rfl 0 (by decide) ?_
        exact q_iret ja_Tray_has_26 rfl (by decide) (k3 h2 h4 h5)
      · intro h6
        refine q_iconst (pc' := 22) ja_Tray_has_21 rfl 1 (by decide) ?_
        refine q_goto ja_Tray_has_22 ?_
        exact q_iret ja_Tray_has_26 rfl (by decide) (k4 h2 h4 h6)
set_option maxRecDepth 20000 in
theorem t_Tray_reset {G : jv_X} {d : Nat} {B : Option Value → jg_H → Prop} {s : jg_H} {c0 : Nat} (hc0 : f_10 c0) (a1 : Int32)
    (k1 : ∀ s1 : jg_H, s1 = jg_up s c0 0 a1 → q_W G d jm_Tray_reset B 7 [some (.ref c0), some (.int a1), some (.int 0)] [] s1) :
    q_P G (d + 1) 126 [.ref c0, .int a1] s B := by
  refine q_in (M := jm_Tray_reset) rfl (Nat.le_of_ble_eq_true rfl) (ls := [some (.ref c0), some (.int a1), none]) rfl ?_
  refine q_aload_n (pc' := 1) ja_Tray_reset_0 rfl rfl ?_
  refine q_iload_n (pc' := 2) ja_Tray_reset_1 rfl rfl ?_
  refine q_putf (pc' := 5) ja_Tray_reset_2 rfl (f_10_c hc0) (by rw [f_10_k hc0]) rfl (by rw [f_10_k hc0]; rfl) ?_
  intro s1 e1
  refine q_iconst (pc' := 6) ja_Tray_reset_5 rfl 0 (by decide) ?_
  refine q_istore_n (pc' := 7) (ls' := [some (.ref c0), some (.int a1), some (.int 0)]) ja_Tray_reset_6 rfl ⟨Nat.le_of_ble_eq_true rfl, rfl⟩ rfl ?_
  exact (k1 s1 e1)
set_option maxRecDepth 20000 in
theorem t_Tray_reset_7 {G : jv_X} {d : Nat} {B : Option Value → jg_H → Prop} {s : jg_H} {x0 : Nat} (hx0 : f_10 x0) (x1 : Int32) (x2 : Int32)
    (k1 : ¬ x2 < 40 → B none s)
    (k2 : x2 < 40 → jv_in x2 40 = true)
    (k3 : x2 < 40 → ∀ s1 : jg_H, s1 = jg_up s (x0 + 1) x2.toNatClampNeg 0 → q_W G d jm_Tray_reset B 7 [some (.ref x0), some (.int x1), some (.int (x2 + 1))] [] s1) :
    q_W G d jm_Tray_reset B 7 [some (.ref x0), some (.int x1), some (.int x2)] [] s := by
  refine q_iload_n (pc' := 8) ja_Tray_reset_7 rfl rfl ?_
  refine q_aload_n (pc' := 9) ja_Tray_reset_8 rfl rfl ?_
  refine q_getf (pc' := 12) (v := .ref (x0 + 1)) ja_Tray_reset_9 rfl (f_10_c hx0) ⟨by rw [f_10_k hx0], by decide⟩ (f_10_g1 hx0) ?_
  refine q_alen (pc' := 13) ja_Tray_reset_12 rfl (f_a_c (f_10_s1 hx0)) (kd := 13) (l := 40) (f_a_k (f_10_s1 hx0)) (by decide) (v := 40) (by decide) ?_
  refine q_ic_ge (pc' := 16) ja_Tray_reset_13 rfl ?_ ?_
  · intro h1
    exact q_vret ja_Tray_reset_29 rfl (k1 h1)
  · intro h2
    refine q_aload_n (pc' := 17) ja_Tray_reset_16 rfl rfl ?_
    refine q_getf (pc' := 20) (v := .ref (x0 + 1)) ja_Tray_reset_17 rfl (f_10_c hx0) ⟨by rw [f_10_k hx0], by decide⟩ (f_10_g1 hx0) ?_
    refine q_iload_n (pc' := 21) ja_Tray_reset_20 rfl rfl ?_
    refine q_iconst (pc' := 22) ja_Tray_reset_21 rfl 0 (by decide) ?_
    refine q_iast (pc' := 23) ja_Tray_reset_22 rfl (f_a_c (f_10_s1 hx0)) (l := 40) (f_a_k (f_10_s1 hx0)) (k2 h2) ?_
    intro s1 e1
    refine q_iinc (pc' := 26) (ls' := [some (.ref x0), some (.int x1), some (.int (x2 + 1))]) ja_Tray_reset_23 rfl rfl (x2 + 1) rfl ⟨Nat.le_of_ble_eq_true rfl, rfl⟩ rfl ?_
    refine q_goto ja_Tray_reset_26 ?_
    exact (k3 h2 s1 e1)
