/-! walks of what a member votes, with calls left -/
theorem t2_C_choice {G : jv_X} {d : Nat} {B : Option Value → jg_H → Prop} {s : jg_H} {c1 : Nat} (hc1 : f_5 c1) {c2 : Nat} (hc2 : f_8 c2) {c3 Lc3 : Nat} (hc3 : f_6 c3 Lc3) (a4 : Int32) (a5 : Int32)
    (k1 : (s c1 1) = 0 → B (some (.int 0)) s)
    (k2 : ¬ (s c1 1) = 0 → ¬ (s c1 2) = (-1) → B (some (.int 0)) s)
    (k3 : ¬ (s c1 1) = 0 → (s c1 2) = (-1) → a4 < 0 → B (some (.int 0)) s)
    (k4 : ¬ (s c1 1) = 0 → (s c1 2) = (-1) → ¬ a4 < 0 → ¬ a4 < (s c3 0) → B (some (.int 0)) s)
    (k5 : ¬ (s c1 1) = 0 → (s c1 2) = (-1) → ¬ a4 < 0 → a4 < (s c3 0) → ¬ a4 < (s c3 1) → B (some (.int 0)) s)
    (k6 : ¬ (s c1 1) = 0 → (s c1 2) = (-1) → ¬ a4 < 0 → a4 < (s c3 0) → a4 < (s c3 1) → (s c1 3) = 0 → jv_in a4 Lc3 = true)
    (k7 : ¬ (s c1 1) = 0 → (s c1 2) = (-1) → ¬ a4 < 0 → a4 < (s c3 0) → a4 < (s c3 1) → (s c1 3) = 0 → (s (c3 + 1) a4.toNatClampNeg) = 0 → q_P G (d + 1) 64 [.ref c2, .ref c1] s (fun v t => q_W G (d + 1) jm_C_choice B 97 [some (.ref 0), some (.ref c1), some (.ref c2), some (.ref c3), some (.int a4), some (.int a5), some (.int (s (c3 + 1) a4.toNatClampNeg))] (v.toList ++ []) t))
    (k8 : ¬ (s c1 1) = 0 → (s c1 2) = (-1) → ¬ a4 < 0 → a4 < (s c3 0) → a4 < (s c3 1) → (s c1 3) = 0 → ¬ (s (c3 + 1) a4.toNatClampNeg) = 0 → (s (c3 + 1) a4.toNatClampNeg) = 4 → q_P G (d + 1) 64 [.ref c2, .ref c1] s (fun v t => q_W G (d + 1) jm_C_choice B 106 [some (.ref 0), some (.ref c1), some (.ref c2), some (.ref c3), some (.int a4), some (.int a5), some (.int (s (c3 + 1) a4.toNatClampNeg))] (v.toList ++ []) t))
    (k9 : ¬ (s c1 1) = 0 → (s c1 2) = (-1) → ¬ a4 < 0 → a4 < (s c3 0) → a4 < (s c3 1) → (s c1 3) = 0 → ¬ (s (c3 + 1) a4.toNatClampNeg) = 0 → ¬ (s (c3 + 1) a4.toNatClampNeg) = 4 → (s (c3 + 1) a4.toNatClampNeg) = 5 → q_P G (d + 1) 64 [.ref c2, .ref c1] s (fun v t => q_W G (d + 1) jm_C_choice B 116 [some (.ref 0), some (.ref c1), some (.ref c2), some (.ref c3), some (.int a4), some (.int a5), some (.int (s (c3 + 1) a4.toNatClampNeg))] (v.toList ++ []) t))
    (k10 : ¬ (s c1 1) = 0 → (s c1 2) = (-1) → ¬ a4 < 0 → a4 < (s c3 0) → a4 < (s c3 1) → (s c1 3) = 0 → ¬ (s (c3 + 1) a4.toNatClampNeg) = 0 → ¬ (s (c3 + 1) a4.toNatClampNeg) = 4 → ¬ (s (c3 + 1) a4.toNatClampNeg) = 5 → (s (c3 + 1) a4.toNatClampNeg) = 6 → jv_in a4 Lc3 = true)
    (k11 : ¬ (s c1 1) = 0 → (s c1 2) = (-1) → ¬ a4 < 0 → a4 < (s c3 0) → a4 < (s c3 1) → (s c1 3) = 0 → ¬ (s (c3 + 1) a4.toNatClampNeg) = 0 → ¬ (s (c3 + 1) a4.toNatClampNeg) = 4 → ¬ (s (c3 + 1) a4.toNatClampNeg) = 5 → (s (c3 + 1) a4.toNatClampNeg) = 6 → q_P G (d + 1) 88 [.ref 0, .int (s (c3 + 2) a4.toNatClampNeg)] s (fun v t => q_W G (d + 1) jm_C_choice B 140 [some (.ref 0), some (.ref c1), some (.ref c2), some (.ref c3), some (.int a4), some (.int a5), some (.int (s (c3 + 1) a4.toNatClampNeg))] (v.toList ++ [.int (s c1 0)]) t))
    (k12 : ¬ (s c1 1) = 0 → (s c1 2) = (-1) → ¬ a4 < 0 → a4 < (s c3 0) → a4 < (s c3 1) → (s c1 3) = 0 → ¬ (s (c3 + 1) a4.toNatClampNeg) = 0 → ¬ (s (c3 + 1) a4.toNatClampNeg) = 4 → ¬ (s (c3 + 1) a4.toNatClampNeg) = 5 → ¬ (s (c3 + 1) a4.toNatClampNeg) = 6 → jv_in a4 Lc3 = true)
    (k13 : ¬ (s c1 1) = 0 → (s c1 2) = (-1) → ¬ a4 < 0 → a4 < (s c3 0) → a4 < (s c3 1) → (s c1 3) = 0 → ¬ (s (c3 + 1) a4.toNatClampNeg) = 0 → ¬ (s (c3 + 1) a4.toNatClampNeg) = 4 → ¬ (s (c3 + 1) a4.toNatClampNeg) = 5 → ¬ (s (c3 + 1) a4.toNatClampNeg) = 6 → q_P G (d + 1) 96 [.ref c2, .ref c1, .int (s (c3 + 1) a4.toNatClampNeg), .int a5, .int (s (c3 + 4) a4.toNatClampNeg)] s (fun v t => q_W G (d + 1) jm_C_choice B 165 [some (.ref 0), some (.ref c1), some (.ref c2), some (.ref c3), some (.int a4), some (.int a5), some (.int (s (c3 + 1) a4.toNatClampNeg))] (v.toList ++ []) t))
    (k14 : ¬ (s c1 1) = 0 → (s c1 2) = (-1) → ¬ a4 < 0 → a4 < (s c3 0) → a4 < (s c3 1) → ¬ (s c1 3) = 0 → B (some (.int (s c1 3))) s) :
    q_P G (d + 2) 94 [.ref 0, .ref c1, .ref c2, .ref c3, .int a4, .int a5] s B := by
  refine q_in (M := jm_C_choice) rfl (Nat.le_of_ble_eq_true rfl) (ls := [some (.ref 0), some (.ref c1), some (.ref c2), some (.ref c3), some (.int a4), some (.int a5), none]) rfl ?_
  refine q_aload_n (pc' := 1) ja_C_choice_0 rfl rfl ?_
  refine q_getf (pc' := 4) (v := .int (s c1 1)) ja_C_choice_1 rfl (f_5_c hc1) ⟨by rw [f_5_k hc1], by decide⟩ (f_i (f_5_k hc1) rfl) ?_
  refine q_if_eq (pc' := 7) ja_C_choice_4 rfl ?_ ?_
  · intro h1
    refine q_iconst (pc' := 25) ja_C_choice_24 rfl 0 (by decide) ?_
    exact q_iret ja_C_choice_25 rfl rfl (k1 h1)
  · intro h2
    refine q_aload_n (pc' := 8) ja_C_choice_7 rfl rfl ?_
    refine q_getf (pc' := 11) (v := .int (s c1 2)) ja_C_choice_8 rfl (f_5_c hc1) ⟨by rw [f_5_k hc1], by decide⟩ (f_i (f_5_k hc1) rfl) ?_
    refine q_iconst (pc' := 12) ja_C_choice_11 rfl (-1) (by decide) ?_
    refine q_ic_ne (pc' := 15) ja_C_choice_12 rfl ?_ ?_
    · intro h3
      refine q_iconst (pc' := 25) ja_C_choice_24 rfl 0 (by decide) ?_
      exact q_iret ja_C_choice_25 rfl rfl (k2 h2 h3)
    · intro h4
      refine q_aload_n (pc' := 16) ja_C_choice_15 rfl rfl ?_
      refine q_iload (pc' := 18) ja_C_choice_16 rfl rfl ?_
      refine q_virt (pc' := 21) (c := c3) (as := [.int a4]) (r := []) ja_C_choice_18 rfl rfl rfl (f_6_c hc3) ⟨by rw [f_6_k hc3], by decide⟩ ?_
      refine q_in (M := jm_Motions_has) rfl (Nat.le_of_ble_eq_true rfl) (ls := [some (.ref c3), some (.int a4)]) rfl ?_
      refine q_iload_n (pc' := 1) ja_Motions_has_0 rfl rfl ?_
      refine q_if_lt (pc' := 4) ja_Motions_has_1 rfl ?_ ?_
      · intro h5
        refine q_iconst (pc' := 25) ja_Motions_has_24 rfl 0 (by decide) ?_
        refine q_iret ja_Motions_has_25 rfl (by decide) ?_
        show q_W _ _ _ _ 21 [some (.ref 0), some (.ref c1), some (.ref c2), some (.ref c3), some (.int a4), some (.int a5), none] [.int 0] s
        refine q_if_ne (pc' := 24) ja_C_choice_21 rfl (fun h => absurd ((by decide : (0 : Int32) = 0)) h) (fun _ => ?_)
        refine q_iconst (pc' := 25) ja_C_choice_24 rfl 0 (by decide) ?_
        exact q_iret ja_C_choice_25 rfl rfl (k3 h2 h4 h5)
      · intro h6
        refine q_iload_n (pc' := 5) ja_Motions_has_4 rfl rfl ?_
        refine q_aload_n (pc' := 6) ja_Motions_has_5 rfl rfl ?_
        refine q_getf (pc' := 9) (v := .int (s c3 0)) ja_Motions_has_6 rfl (f_6_c hc3) ⟨by rw [f_6_k hc3], by decide⟩ (f_i (f_6_k hc3) rfl) ?_
        refine q_ic_ge (pc' := 12) ja_Motions_has_9 rfl ?_ ?_
        · intro h7
          refine q_iconst (pc' := 25) ja_Motions_has_24 rfl 0 (by decide) ?_
          refine q_iret ja_Motions_has_25 rfl (by decide) ?_
          show q_W _ _ _ _ 21 [some (.ref 0), some (.ref c1), some (.ref c2), some (.ref c3), some (.int a4), some (.int a5), none] [.int 0] s
          refine q_if_ne (pc' := 24) ja_C_choice_21 rfl (fun h => absurd ((by decide : (0 : Int32) = 0)) h) (fun _ => ?_)
          refine q_iconst (pc' := 25) ja_C_choice_24 rfl 0 (by decide) ?_
          exact q_iret ja_C_choice_25 rfl rfl (k4 h2 h4 h6 h7)
        · intro h8
          refine q_iload_n (pc' := 13) ja_Motions_has_12 rfl rfl ?_
          refine q_aload_n (pc' := 14) ja_Motions_has_13 rfl rfl ?_
          refine q_getf (pc' := 17) (v := .int (s c3 1)) ja_Motions_has_14 rfl (f_6_c hc3) ⟨by rw [f_6_k hc3], by decide⟩ (f_i (f_6_k hc3) rfl) ?_
          refine q_ic_ge (pc' := 20) ja_Motions_has_17 rfl ?_ ?_
          · intro h9
            refine q_iconst (pc' := 25) ja_Motions_has_24 rfl 0 (by decide) ?_
            refine q_iret ja_Motions_has_25 rfl (by decide) ?_
            show q_W _ _ _ _ 21 [some (.ref 0), some (.ref c1), some (.ref c2), some (.ref c3), some (.int a4), some (.int a5), none] [.int 0] s
            refine q_if_ne (pc' := 24) ja_C_choice_21 rfl (fun h => absurd ((by decide : (0 : Int32) = 0)) h) (fun _ => ?_)
            refine q_iconst (pc' := 25) ja_C_choice_24 rfl 0 (by decide) ?_
            exact q_iret ja_C_choice_25 rfl rfl (k5 h2 h4 h6 h8 h9)
          · intro h10
            refine q_iconst (pc' := 21) ja_Motions_has_20 rfl 1 (by decide) ?_
            refine q_goto ja_Motions_has_21 ?_
            refine q_iret ja_Motions_has_25 rfl (by decide) ?_
            show q_W _ _ _ _ 21 [some (.ref 0), some (.ref c1), some (.ref c2), some (.ref c3), some (.int a4), some (.int a5), none] [.int 1] s
            refine q_if_ne (pc' := 24) ja_C_choice_21 rfl (fun _ => ?_) (fun h => absurd h ((by decide : ¬ (1 : Int32) = 0)))
            refine q_aload_n (pc' := 27) ja_C_choice_26 rfl rfl ?_
            refine q_getf (pc' := 30) (v := .int (s c1 3)) ja_C_choice_27 rfl (f_5_c hc1) ⟨by rw [f_5_k hc1], by decide⟩ (f_i (f_5_k hc1) rfl) ?_
            refine q_if_eq (pc' := 33) ja_C_choice_30 rfl ?_ ?_
            · intro h11
              refine q_aload_n (pc' := 39) ja_C_choice_38 rfl rfl ?_
              refine q_getf (pc' := 42) (v := .ref (c3 + 1)) ja_C_choice_39 rfl (f_6_c hc3) ⟨by rw [f_6_k hc3], by decide⟩ (f_6_g2 hc3) ?_
              refine q_iload (pc' := 44) ja_C_choice_42 rfl rfl ?_
              refine q_iald (pc' := 45) (v := .int (s (c3 + 1) a4.toNatClampNeg)) ja_C_choice_44 rfl (f_a_c (f_6_s2 hc3)) (l := Lc3) (f_a_k (f_6_s2 hc3)) (k6 h2 h4 h6 h8 h10 h11) (f_i (f_a_k (f_6_s2 hc3)) rfl) ?_
              refine q_istore (pc' := 47) (ls' := [some (.ref 0), some (.ref c1), some (.ref c2), some (.ref c3), some (.int a4), some (.int a5), some (.int (s (c3 + 1) a4.toNatClampNeg))]) ja_C_choice_45 rfl ⟨Nat.le_of_ble_eq_true rfl, rfl⟩ rfl ?_
              refine q_iload (pc' := 49) ja_C_choice_47 rfl rfl ?_
              by_cases h12 : (s (c3 + 1) a4.toNatClampNeg) = 0
              · refine q_swE (pc' := 92) ja_C_choice_49 (by rw [h12]; decide) (by rw [h12]; exact ⟨_, rfl, rfl⟩) ?_
                refine q_aload_n (pc' := 93) ja_C_choice_92 rfl rfl ?_
                refine q_aload_n (pc' := 94) ja_C_choice_93 rfl rfl ?_
                refine q_virt (pc' := 97) (c := c2) (as := [.ref c1]) (r := []) ja_C_choice_94 rfl rfl rfl (f_8_c hc2) ⟨by rw [f_8_k hc2], by decide⟩ ?_
                exact (k7 h2 h4 h6 h8 h10 h11 h12)
              by_cases h13 : (s (c3 + 1) a4.toNatClampNeg) = 4
              · refine q_swE (pc' := 101) ja_C_choice_49 (by rw [h13]; decide) (by rw [h13]; exact ⟨_, rfl, rfl⟩) ?_
                refine q_aload_n (pc' := 102) ja_C_choice_101 rfl rfl ?_
                refine q_aload_n (pc' := 103) ja_C_choice_102 rfl rfl ?_
                refine q_virt (pc' := 106) (c := c2) (as := [.ref c1]) (r := []) ja_C_choice_103 rfl rfl rfl (f_8_c hc2) ⟨by rw [f_8_k hc2], by decide⟩ ?_
                exact (k8 h2 h4 h6 h8 h10 h11 h12 h13)
              by_cases h14 : (s (c3 + 1) a4.toNatClampNeg) = 5
              · refine q_swE (pc' := 111) ja_C_choice_49 (by rw [h14]; decide) (by rw [h14]; exact ⟨_, rfl, rfl⟩) ?_
                refine q_aload_n (pc' := 112) ja_C_choice_111 rfl rfl ?_
                refine q_aload_n (pc' := 113) ja_C_choice_112 rfl rfl ?_
                refine q_virt (pc' := 116) (c := c2) (as := [.ref c1]) (r := []) ja_C_choice_113 rfl rfl rfl (f_8_c hc2) ⟨by rw [f_8_k hc2], by decide⟩ ?_
                exact (k9 h2 h4 h6 h8 h10 h11 h12 h13 h14)
              by_cases h15 : (s (c3 + 1) a4.toNatClampNeg) = 6
              · refine q_swE (pc' := 125) ja_C_choice_49 (by rw [h15]; decide) (by rw [h15]; exact ⟨_, rfl, rfl⟩) ?_
                refine q_aload_n (pc' := 126) ja_C_choice_125 rfl rfl ?_
                refine q_getf (pc' := 129) (v := .int (s c1 0)) ja_C_choice_126 rfl (f_5_c hc1) ⟨by rw [f_5_k hc1], by decide⟩ (f_i (f_5_k hc1) rfl) ?_
                refine q_aload_n (pc' := 130) ja_C_choice_129 rfl rfl ?_
                refine q_aload_n (pc' := 131) ja_C_choice_130 rfl rfl ?_
                refine q_getf (pc' := 134) (v := .ref (c3 + 2)) ja_C_choice_131 rfl (f_6_c hc3) ⟨by rw [f_6_k hc3], by decide⟩ (f_6_g3 hc3) ?_
                refine q_iload (pc' := 136) ja_C_choice_134 rfl rfl ?_
                refine q_iald (pc' := 137) (v := .int (s (c3 + 2) a4.toNatClampNeg)) ja_C_choice_136 rfl (f_a_c (f_6_s3 hc3)) (l := Lc3) (f_a_k (f_6_s3 hc3)) (k10 h2 h4 h6 h8 h10 h11 h12 h13 h14 h15) (f_i (f_a_k (f_6_s3 hc3)) rfl) ?_
                refine q_virt (pc' := 140) (c := 0) (as := [.int (s (c3 + 2) a4.toNatClampNeg)]) (r := [.int (s c1 0)]) ja_C_choice_137 rfl rfl rfl (by decide) ⟨rfl, by decide⟩ ?_
                exact (k11 h2 h4 h6 h8 h10 h11 h12 h13 h14 h15)
              refine q_swD (pc' := 149) ja_C_choice_49 [0, 4, 5, 6] (List.forall_mem_cons.mpr ⟨fun e => h12 (by rw [e]; decide), (List.forall_mem_cons.mpr ⟨fun e => h13 (by rw [e]; decide), (List.forall_mem_cons.mpr ⟨fun e => h14 (by rw [e]; decide), (List.forall_mem_cons.mpr ⟨fun e => h15 (by rw [e]; decide), (List.forall_mem_nil _)⟩)⟩)⟩)⟩) (by decide) rfl ?_
              refine q_aload_n (pc' := 150) ja_C_choice_149 rfl rfl ?_
              refine q_aload_n (pc' := 151) ja_C_choice_150 rfl rfl ?_
              refine q_iload (pc' := 153) ja_C_choice_151 rfl rfl ?_
              refine q_iload (pc' := 155) ja_C_choice_153 rfl rfl ?_
              refine q_aload_n (pc' := 156) ja_C_choice_155 rfl rfl ?_
              refine q_getf (pc' := 159) (v := .ref (c3 + 4)) ja_C_choice_156 rfl (f_6_c hc3) ⟨by rw [f_6_k hc3], by decide⟩ (f_6_g5 hc3) ?_
              refine q_iload (pc' := 161) ja_C_choice_159 rfl rfl ?_
              refine q_iald (pc' := 162) (v := .int (s (c3 + 4) a4.toNatClampNeg)) ja_C_choice_161 rfl (f_a_c (f_6_s5 hc3)) (l := Lc3) (f_a_k (f_6_s5 hc3)) (k12 h2 h4 h6 h8 h10 h11 h12 h13 h14 h15) (f_i (f_a_k (f_6_s5 hc3)) rfl) ?_
              refine q_virt (pc' := 165) (c := c2) (as := [.ref c1, .int (s (c3 + 1) a4.toNatClampNeg), .int a5, .int (s (c3 + 4) a4.toNatClampNeg)]) (r := []) ja_C_choice_162 rfl rfl rfl (f_8_c hc2) ⟨by rw [f_8_k hc2], by decide⟩ ?_
              exact (k13 h2 h4 h6 h8 h10 h11 h12 h13 h14 h15)
            · intro h16
              refine q_aload_n (pc' := 34) ja_C_choice_33 rfl rfl ?_
              refine q_getf (pc' := 37) (v := .int (s c1 3)) ja_C_choice_34 rfl (f_5_c hc1) ⟨by rw [f_5_k hc1], by decide⟩ (f_i (f_5_k hc1) rfl) ?_
              exact q_iret ja_C_choice_37 rfl rfl (k14 h2 h4 h6 h8 h10 h16)
theorem t2_C_choice_97 {G : jv_X} {d : Nat} {B : Option Value → jg_H → Prop} {s : jg_H} {x1 : Nat} (hx1 : f_5 x1) {x2 : Nat} (hx2 : f_8 x2) {x3 Lx3 : Nat} (hx3 : f_6 x3 Lx3) (x4 : Int32) (x5 : Int32) (x6 : Int32) (y0 : Int32)
    (k1 : q_P G (d + 1) 95 [.int y0] s (fun v t => q_W G (d + 1) jm_C_choice B 100 [some (.ref 0), some (.ref x1), some (.ref x2), some (.ref x3), some (.int x4), some (.int x5), some (.int x6)] (v.toList ++ []) t)) :
    q_W G (d + 1) jm_C_choice B 97 [some (.ref 0), some (.ref x1), some (.ref x2), some (.ref x3), some (.int x4), some (.int x5), some (.int x6)] [.int y0] s := by
  refine q_stat (pc' := 100) (as := [.int y0]) (r := []) ja_C_choice_97 rfl (by decide) rfl rfl ?_
  exact k1
theorem t2_C_choice_100 {G : jv_X} {d : Nat} {B : Option Value → jg_H → Prop} {s : jg_H} {x1 : Nat} (hx1 : f_5 x1) {x2 : Nat} (hx2 : f_8 x2) {x3 Lx3 : Nat} (hx3 : f_6 x3 Lx3) (x4 : Int32) (x5 : Int32) (x6 : Int32) (y0 : Int32)
    (k1 : B (some (.int y0)) s) :
    q_W G (d + 1) jm_C_choice B 100 [some (.ref 0), some (.ref x1), some (.ref x2), some (.ref x3), some (.int x4), some (.int x5), some (.int x6)] [.int y0] s := by
  exact q_iret ja_C_choice_100 rfl rfl k1
theorem t2_C_choice_106 {G : jv_X} {d : Nat} {B : Option Value → jg_H → Prop} {s : jg_H} {x1 : Nat} (hx1 : f_5 x1) {x2 : Nat} (hx2 : f_8 x2) {x3 Lx3 : Nat} (hx3 : f_6 x3 Lx3) (x4 : Int32) (x5 : Int32) (x6 : Int32) (y0 : Int32)
    (k1 : q_P G (d + 1) 95 [.int (-y0)] s (fun v t => q_W G (d + 1) jm_C_choice B 110 [some (.ref 0), some (.ref x1), some (.ref x2), some (.ref x3), some (.int x4), some (.int x5), some (.int x6)] (v.toList ++ []) t)) :
    q_W G (d + 1) jm_C_choice B 106 [some (.ref 0), some (.ref x1), some (.ref x2), some (.ref x3), some (.int x4), some (.int x5), some (.int x6)] [.int y0] s := by
  refine q_ineg (pc' := 107) ja_C_choice_106 rfl ?_
  refine q_stat (pc' := 110) (as := [.int (-y0)]) (r := []) ja_C_choice_107 rfl (by decide) rfl rfl ?_
  exact k1
theorem t2_C_choice_110 {G : jv_X} {d : Nat} {B : Option Value → jg_H → Prop} {s : jg_H} {x1 : Nat} (hx1 : f_5 x1) {x2 : Nat} (hx2 : f_8 x2) {x3 Lx3 : Nat} (hx3 : f_6 x3 Lx3) (x4 : Int32) (x5 : Int32) (x6 : Int32) (y0 : Int32)
    (k1 : B (some (.int y0)) s) :
    q_W G (d + 1) jm_C_choice B 110 [some (.ref 0), some (.ref x1), some (.ref x2), some (.ref x3), some (.int x4), some (.int x5), some (.int x6)] [.int y0] s := by
  exact q_iret ja_C_choice_110 rfl rfl k1
theorem t2_C_choice_116 {G : jv_X} {d : Nat} {B : Option Value → jg_H → Prop} {s : jg_H} {x1 : Nat} (hx1 : f_5 x1) {x2 : Nat} (hx2 : f_8 x2) {x3 Lx3 : Nat} (hx3 : f_6 x3 Lx3) (x4 : Int32) (x5 : Int32) (x6 : Int32) (y0 : Int32)
    (k1 : ¬ y0 = 0 → B (some (.int 2)) s)
    (k2 : y0 = 0 → B (some (.int 1)) s) :
    q_W G (d + 1) jm_C_choice B 116 [some (.ref 0), some (.ref x1), some (.ref x2), some (.ref x3), some (.int x4), some (.int x5), some (.int x6)] [.int y0] s := by
  refine q_if_ne (pc' := 119) ja_C_choice_116 rfl ?_ ?_
  · intro h1
    refine q_iconst (pc' := 124) ja_C_choice_123 rfl 2 (by decide) ?_
    exact q_iret ja_C_choice_124 rfl rfl (k1 h1)
  · intro h2
    refine q_iconst (pc' := 120) ja_C_choice_119 rfl 1 (by decide) ?_
    refine q_goto ja_C_choice_120 ?_
    exact q_iret ja_C_choice_124 rfl rfl (k2 h2)
theorem t2_C_choice_140 {G : jv_X} {d : Nat} {B : Option Value → jg_H → Prop} {s : jg_H} {x1 : Nat} (hx1 : f_5 x1) {x2 : Nat} (hx2 : f_8 x2) {x3 Lx3 : Nat} (hx3 : f_6 x3 Lx3) (x4 : Int32) (x5 : Int32) (x6 : Int32) (y0 : Int32) (y1 : Int32)
    (k1 : ¬ y0 = y1 → B (some (.int 2)) s)
    (k2 : y0 = y1 → B (some (.int 1)) s) :
    q_W G (d + 1) jm_C_choice B 140 [some (.ref 0), some (.ref x1), some (.ref x2), some (.ref x3), some (.int x4), some (.int x5), some (.int x6)] [.int y1, .int y0] s := by
  refine q_ic_ne (pc' := 143) ja_C_choice_140 rfl ?_ ?_
  · intro h1
    refine q_iconst (pc' := 148) ja_C_choice_147 rfl 2 (by decide) ?_
    exact q_iret ja_C_choice_148 rfl rfl (k1 h1)
  · intro h2
    refine q_iconst (pc' := 144) ja_C_choice_143 rfl 1 (by decide) ?_
    refine q_goto ja_C_choice_144 ?_
    exact q_iret ja_C_choice_148 rfl rfl (k2 h2)
theorem t2_C_choice_165 {G : jv_X} {d : Nat} {B : Option Value → jg_H → Prop} {s : jg_H} {x1 : Nat} (hx1 : f_5 x1) {x2 : Nat} (hx2 : f_8 x2) {x3 Lx3 : Nat} (hx3 : f_6 x3 Lx3) (x4 : Int32) (x5 : Int32) (x6 : Int32) (y0 : Int32)
    (k1 : q_P G (d + 1) 95 [.int y0] s (fun v t => q_W G (d + 1) jm_C_choice B 168 [some (.ref 0), some (.ref x1), some (.ref x2), some (.ref x3), some (.int x4), some (.int x5), some (.int x6)] (v.toList ++ []) t)) :
    q_W G (d + 1) jm_C_choice B 165 [some (.ref 0), some (.ref x1), some (.ref x2), some (.ref x3), some (.int x4), some (.int x5), some (.int x6)] [.int y0] s := by
  refine q_stat (pc' := 168) (as := [.int y0]) (r := []) ja_C_choice_165 rfl (by decide) rfl rfl ?_
  exact k1
theorem t2_C_choice_168 {G : jv_X} {d : Nat} {B : Option Value → jg_H → Prop} {s : jg_H} {x1 : Nat} (hx1 : f_5 x1) {x2 : Nat} (hx2 : f_8 x2) {x3 Lx3 : Nat} (hx3 : f_6 x3 Lx3) (x4 : Int32) (x5 : Int32) (x6 : Int32) (y0 : Int32)
    (k1 : B (some (.int y0)) s) :
    q_W G (d + 1) jm_C_choice B 168 [some (.ref 0), some (.ref x1), some (.ref x2), some (.ref x3), some (.int x4), some (.int x5), some (.int x6)] [.int y0] s := by
  exact q_iret ja_C_choice_168 rfl rfl k1
theorem t2_Sections_gain {G : jv_X} {d : Nat} {B : Option Value → jg_H → Prop} {s : jg_H} {c0 : Nat} (hc0 : f_8 c0) {c1 : Nat} (hc1 : f_5 c1) (a2 : Int32) (a3 : Int32) (a4 : Int32)
    (k1 : q_P G d 55 [.ref c0, .int a2, .int a3] s (fun v t => q_W G d jm_Sections_gain B 6 [some (.ref c0), some (.ref c1), some (.int a2), some (.int a3), some (.int a4), none, none] (v.toList ++ []) t)) :
    q_P G (d + 1) 96 [.ref c0, .ref c1, .int a2, .int a3, .int a4] s B := by
  refine q_in (M := jm_Sections_gain) rfl (Nat.le_of_ble_eq_true rfl) (ls := [some (.ref c0), some (.ref c1), some (.int a2), some (.int a3), some (.int a4), none, none]) rfl ?_
  refine q_aload_n (pc' := 1) ja_Sections_gain_0 rfl rfl ?_
  refine q_iload_n (pc' := 2) ja_Sections_gain_1 rfl rfl ?_
  refine q_iload_n (pc' := 3) ja_Sections_gain_2 rfl rfl ?_
  refine q_virt (pc' := 6) (c := c0) (as := [.int a2, .int a3]) (r := []) ja_Sections_gain_3 rfl rfl rfl (f_8_c hc0) ⟨by rw [f_8_k hc0], by decide⟩ ?_
  exact k1
theorem t2_Sections_gain_6 {G : jv_X} {d : Nat} {B : Option Value → jg_H → Prop} {s : jg_H} {x0 : Nat} (hx0 : f_8 x0) {x1 : Nat} (hx1 : f_5 x1) (x2 : Int32) (x3 : Int32) (x4 : Int32) (y0 : Int32)
    (k1 : ¬ y0 = 0 → ¬ x2 = 1 → q_P G d 44 [.ref x1, .int x4] s (fun v t => q_W G d jm_Sections_gain B 26 [some (.ref x0), some (.ref x1), some (.int x2), some (.int x3), some (.int x4), none, none] (v.toList ++ []) t))
    (k2 : ¬ y0 = 0 → x2 = 1 → ¬ x2 = 2 → q_P G d 62 [.ref x0, .int x3] s (fun v t => q_W G d jm_Sections_gain B 43 [some (.ref x0), some (.ref x1), some (.int x2), some (.int x3), some (.int x4), some (.int 0), none] (v.toList ++ [.ref x1]) t))
    (k3 : ¬ y0 = 0 → x2 = 1 → x2 = 2 → B (some (.int 0)) s)
    (k4 : y0 = 0 → B (some (.int 0)) s) :
    q_W G d jm_Sections_gain B 6 [some (.ref x0), some (.ref x1), some (.int x2), some (.int x3), some (.int x4), none, none] [.int y0] s := by
  refine q_if_ne (pc' := 9) ja_Sections_gain_6 rfl ?_ ?_
  · intro h1
    refine q_iload_n (pc' := 12) ja_Sections_gain_11 rfl rfl ?_
    refine q_iconst (pc' := 13) ja_Sections_gain_12 rfl 1 (by decide) ?_
    refine q_ic_ne (pc' := 16) ja_Sections_gain_13 rfl ?_ ?_
    · intro h2
      refine q_aload_n (pc' := 21) ja_Sections_gain_20 rfl rfl ?_
      refine q_iload (pc' := 23) ja_Sections_gain_21 rfl rfl ?_
      refine q_virt (pc' := 26) (c := x1) (as := [.int x4]) (r := []) ja_Sections_gain_23 rfl rfl rfl (f_5_c hx1) ⟨by rw [f_5_k hx1], by decide⟩ ?_
      exact (k1 h1 h2)
    · intro h3
      refine q_iconst (pc' := 17) ja_Sections_gain_16 rfl 0 (by decide) ?_
      refine q_goto ja_Sections_gain_17 ?_
      refine q_istore (pc' := 28) (ls' := [some (.ref x0), some (.ref x1), some (.int x2), some (.int x3), some (.int x4), some (.int 0), none]) ja_Sections_gain_26 rfl ⟨Nat.le_of_ble_eq_true rfl, rfl⟩ rfl ?_
      refine q_iload_n (pc' := 29) ja_Sections_gain_28 rfl rfl ?_
      refine q_iconst (pc' := 30) ja_Sections_gain_29 rfl 2 (by decide) ?_
      refine q_ic_ne (pc' := 33) ja_Sections_gain_30 rfl ?_ ?_
      · intro h4
        refine q_aload_n (pc' := 38) ja_Sections_gain_37 rfl rfl ?_
        refine q_aload_n (pc' := 39) ja_Sections_gain_38 rfl rfl ?_
        refine q_iload_n (pc' := 40) ja_Sections_gain_39 rfl rfl ?_
        refine q_virt (pc' := 43) (c := x0) (as := [.int x3]) (r := [.ref x1]) ja_Sections_gain_40 rfl rfl rfl (f_8_c hx0) ⟨by rw [f_8_k hx0], by decide⟩ ?_
        exact (k2 h1 h3 h4)
      · intro h5
        refine q_iconst (pc' := 34) ja_Sections_gain_33 rfl 0 (by decide) ?_
        refine q_goto ja_Sections_gain_34 ?_
        refine q_istore (pc' := 48) (ls' := [some (.ref x0), some (.ref x1), some (.int x2), some (.int x3), some (.int x4), some (.int 0), some (.int 0)]) ja_Sections_gain_46 rfl ⟨Nat.le_of_ble_eq_true rfl, rfl⟩ rfl ?_
        refine q_iload (pc' := 50) ja_Sections_gain_48 rfl rfl ?_
        refine q_iload (pc' := 52) ja_Sections_gain_50 rfl rfl ?_
        refine q_isub (pc' := 53) ja_Sections_gain_52 rfl ?_
        rw [show ((0 - 0) : Int32) = 0 from by decide]
        exact q_iret ja_Sections_gain_53 rfl rfl (k3 h1 h3 h5)
  · intro h6
    refine q_iconst (pc' := 10) ja_Sections_gain_9 rfl 0 (by decide) ?_
    exact q_iret ja_Sections_gain_10 rfl rfl (k4 h6)
theorem t2_Sections_gain_26 {G : jv_X} {d : Nat} {B : Option Value → jg_H → Prop} {s : jg_H} {x0 : Nat} (hx0 : f_8 x0) {x1 : Nat} (hx1 : f_5 x1) (x2 : Int32) (x3 : Int32) (x4 : Int32) (y0 : Int32)
    (k1 : ¬ x2 = 2 → q_P G d 62 [.ref x0, .int x3] s (fun v t => q_W G d jm_Sections_gain B 43 [some (.ref x0), some (.ref x1), some (.int x2), some (.int x3), some (.int x4), some (.int y0), none] (v.toList ++ [.ref x1]) t))
    (k2 : x2 = 2 → B (some (.int (y0 - 0))) s) :
    q_W G d jm_Sections_gain B 26 [some (.ref x0), some (.ref x1), some (.int x2), some (.int x3), some (.int x4), none, none] [.int y0] s := by
  refine q_istore (pc' := 28) (ls' := [some (.ref x0), some (.ref x1), some (.int x2), some (.int x3), some (.int x4), some (.int y0), none]) ja_Sections_gain_26 rfl ⟨Nat.le_of_ble_eq_true rfl, rfl⟩ rfl ?_
  refine q_iload_n (pc' := 29) ja_Sections_gain_28 rfl rfl ?_
  refine q_iconst (pc' := 30) ja_Sections_gain_29 rfl 2 (by decide) ?_
  refine q_ic_ne (pc' := 33) ja_Sections_gain_30 rfl ?_ ?_
  · intro h1
    refine q_aload_n (pc' := 38) ja_Sections_gain_37 rfl rfl ?_
    refine q_aload_n (pc' := 39) ja_Sections_gain_38 rfl rfl ?_
    refine q_iload_n (pc' := 40) ja_Sections_gain_39 rfl rfl ?_
    refine q_virt (pc' := 43) (c := x0) (as := [.int x3]) (r := [.ref x1]) ja_Sections_gain_40 rfl rfl rfl (f_8_c hx0) ⟨by rw [f_8_k hx0], by decide⟩ ?_
    exact (k1 h1)
  · intro h2
    refine q_iconst (pc' := 34) ja_Sections_gain_33 rfl 0 (by decide) ?_
    refine q_goto ja_Sections_gain_34 ?_
    refine q_istore (pc' := 48) (ls' := [some (.ref x0), some (.ref x1), some (.int x2), some (.int x3), some (.int x4), some (.int y0), some (.int 0)]) ja_Sections_gain_46 rfl ⟨Nat.le_of_ble_eq_true rfl, rfl⟩ rfl ?_
    refine q_iload (pc' := 50) ja_Sections_gain_48 rfl rfl ?_
    refine q_iload (pc' := 52) ja_Sections_gain_50 rfl rfl ?_
    refine q_isub (pc' := 53) ja_Sections_gain_52 rfl ?_
    exact q_iret ja_Sections_gain_53 rfl rfl (k2 h2)
theorem t2_Sections_gain_43 {G : jv_X} {d : Nat} {B : Option Value → jg_H → Prop} {s : jg_H} {x0 : Nat} (hx0 : f_8 x0) {x1 : Nat} (hx1 : f_5 x1) (x2 : Int32) (x3 : Int32) (x4 : Int32) (x5 : Int32) {y0 : Nat} (hy0 : f_5 y0) (y1 : Int32)
    (k1 : q_P G d 44 [.ref y0, .int y1] s (fun v t => q_W G d jm_Sections_gain B 46 [some (.ref x0), some (.ref x1), some (.int x2), some (.int x3), some (.int x4), some (.int x5), none] (v.toList ++ []) t)) :
    q_W G d jm_Sections_gain B 43 [some (.ref x0), some (.ref x1), some (.int x2), some (.int x3), some (.int x4), some (.int x5), none] [.int y1, .ref y0] s := by
  refine q_virt (pc' := 46) (c := y0) (as := [.int y1]) (r := []) ja_Sections_gain_43 rfl rfl rfl (f_5_c hy0) ⟨by rw [f_5_k hy0], by decide⟩ ?_
  exact k1
theorem t2_Sections_gain_46 {G : jv_X} {d : Nat} {B : Option Value → jg_H → Prop} {s : jg_H} {x0 : Nat} (hx0 : f_8 x0) {x1 : Nat} (hx1 : f_5 x1) (x2 : Int32) (x3 : Int32) (x4 : Int32) (x5 : Int32) (y0 : Int32)
    (k1 : B (some (.int (x5 - y0))) s) :
    q_W G d jm_Sections_gain B 46 [some (.ref x0), some (.ref x1), some (.int x2), some (.int x3), some (.int x4), some (.int x5), none] [.int y0] s := by
  refine q_istore (pc' := 48) (ls' := [some (.ref x0), some (.ref x1), some (.int x2), some (.int x3), some (.int x4), some (.int x5), some (.int y0)]) ja_Sections_gain_46 rfl ⟨Nat.le_of_ble_eq_true rfl, rfl⟩ rfl ?_
  refine q_iload (pc' := 50) ja_Sections_gain_48 rfl rfl ?_
  refine q_iload (pc' := 52) ja_Sections_gain_50 rfl rfl ?_
  refine q_isub (pc' := 53) ja_Sections_gain_52 rfl ?_
  exact q_iret ja_Sections_gain_53 rfl rfl k1
theorem t2_C_would {G : jv_X} {d : Nat} {B : Option Value → jg_H → Prop} {s : jg_H} (a1 : Int32)
    (k1 : a1 < 0 → B (some (.int (-2))) s)
    (k2 : ¬ a1 < 0 → ¬ a1 < (s 0 1) → B (some (.int (-2))) s)
    (k3 : ¬ a1 < 0 → a1 < (s 0 1) → ¬ a1 < 15 → B (some (.int (-2))) s)
    (k4 : ¬ a1 < 0 → a1 < (s 0 1) → a1 < 15 → ((s 60 0) - 1) < 0 → B (some (.int (-1))) s)
    (k5 : ¬ a1 < 0 → a1 < (s 0 1) → a1 < 15 → ¬ ((s 60 0) - 1) < 0 → ¬ ((s 60 0) - 1) < (s 60 0) → B (some (.int (-1))) s)
    (k6 : ¬ a1 < 0 → a1 < (s 0 1) → a1 < 15 → ¬ ((s 60 0) - 1) < 0 → ((s 60 0) - 1) < (s 60 0) → ¬ ((s 60 0) - 1) < (s 60 1) → B (some (.int (-1))) s)
    (k7 : ¬ a1 < 0 → a1 < (s 0 1) → a1 < 15 → ¬ ((s 60 0) - 1) < 0 → ((s 60 0) - 1) < (s 60 0) → ((s 60 0) - 1) < (s 60 1) → q_P G (d + 1) 84 [.ref 0] s (fun v t => q_W G (d + 1) jm_C_would B 45 [some (.ref 0), some (.int a1), some (.int ((s 60 0) - 1))] (v.toList ++ [.ref (2 + 2 * a1.toNatClampNeg), .ref 0]) t)) :
    q_P G (d + 2) 102 [.ref 0, .int a1] s B := by
  refine q_in (M := jm_C_would) rfl (Nat.le_of_ble_eq_true rfl) (ls := [some (.ref 0), some (.int a1), none]) rfl ?_
  refine q_aload_n (pc' := 1) ja_C_would_0 rfl rfl ?_
  refine q_iload_n (pc' := 2) ja_C_would_1 rfl rfl ?_
  refine q_virt (pc' := 5) (c := 0) (as := [.int a1]) (r := []) ja_C_would_2 rfl rfl rfl (by decide) ⟨rfl, by decide⟩ ?_
  refine q_in (M := jm_C_isMember) rfl (Nat.le_of_ble_eq_true rfl) (ls := [some (.ref 0), some (.int a1)]) rfl ?_
  refine q_iload_n (pc' := 1) ja_C_isMember_0 rfl rfl ?_
  refine q_if_lt (pc' := 4) ja_C_isMember_1 rfl ?_ ?_
  · intro h1
    refine q_iconst (pc' := 26) ja_C_isMember_25 rfl 0 (by decide) ?_
    refine q_iret ja_C_isMember_26 rfl (by decide) ?_
    show q_W _ _ _ _ 5 [some (.ref 0), some (.int a1), none] [.int 0] s
    refine q_if_ne (pc' := 8) ja_C_would_5 rfl (fun h => absurd ((by decide : (0 : Int32) = 0)) h) (fun _ => ?_)
    refine q_bipush (pc' := 10) ja_C_would_8 rfl (-2) (by decide) ?_
    exact q_iret ja_C_would_10 rfl rfl (k1 h1)
  · intro h2
    refine q_iload_n (pc' := 5) ja_C_isMember_4 rfl rfl ?_
    refine q_aload_n (pc' := 6) ja_C_isMember_5 rfl rfl ?_
    refine q_getf (pc' := 9) (v := .int (s 0 1)) ja_C_isMember_6 rfl (by decide) ⟨rfl, by decide⟩ rfl ?_
    refine q_ic_ge (pc' := 12) ja_C_isMember_9 rfl ?_ ?_
    · intro h3
      refine q_iconst (pc' := 26) ja_C_isMember_25 rfl 0 (by decide) ?_
      refine q_iret ja_C_isMember_26 rfl (by decide) ?_
      show q_W _ _ _ _ 5 [some (.ref 0), some (.int a1), none] [.int 0] s
      refine q_if_ne (pc' := 8) ja_C_would_5 rfl (fun h => absurd ((by decide : (0 : Int32) = 0)) h) (fun _ => ?_)
      refine q_bipush (pc' := 10) ja_C_would_8 rfl (-2) (by decide) ?_
      exact q_iret ja_C_would_10 rfl rfl (k2 h2 h3)
    · intro h4
      refine q_iload_n (pc' := 13) ja_C_isMember_12 rfl rfl ?_
      refine q_aload_n (pc' := 14) ja_C_isMember_13 rfl rfl ?_
      refine q_getf (pc' := 17) (v := .ref 1) ja_C_isMember_14 rfl (by decide) ⟨rfl, by decide⟩ rfl ?_
      refine q_alen (pc' := 18) ja_C_isMember_17 rfl (by decide) (kd := 16) (l := 15) rfl (by decide) (v := 15) (by decide) ?_
      refine q_ic_ge (pc' := 21) ja_C_isMember_18 rfl ?_ ?_
      · intro h5
        refine q_iconst (pc' := 26) ja_C_isMember_25 rfl 0 (by decide) ?_
        refine q_iret ja_C_isMember_26 rfl (by decide) ?_
        show q_W _ _ _ _ 5 [some (.ref 0), some (.int a1), none] [.int 0] s
        refine q_if_ne (pc' := 8) ja_C_would_5 rfl (fun h => absurd ((by decide : (0 : Int32) = 0)) h) (fun _ => ?_)
        refine q_bipush (pc' := 10) ja_C_would_8 rfl (-2) (by decide) ?_
        exact q_iret ja_C_would_10 rfl rfl (k3 h2 h4 h5)
      · intro h6
        refine q_iconst (pc' := 22) ja_C_isMember_21 rfl 1 (by decide) ?_
        refine q_goto ja_C_isMember_22 ?_
        refine q_iret ja_C_isMember_26 rfl (by decide) ?_
        show q_W _ _ _ _ 5 [some (.ref 0), some (.int a1), none] [.int 1] s
        refine q_if_ne (pc' := 8) ja_C_would_5 rfl (fun _ => ?_) (fun h => absurd h ((by decide : ¬ (1 : Int32) = 0)))
        refine q_aload_n (pc' := 12) ja_C_would_11 rfl rfl ?_
        refine q_getf (pc' := 15) (v := .ref 60) ja_C_would_12 rfl (by decide) ⟨rfl, by decide⟩ rfl ?_
        refine q_getf (pc' := 18) (v := .int (s 60 0)) ja_C_would_15 rfl (by decide) ⟨rfl, by decide⟩ rfl ?_
        refine q_iconst (pc' := 19) ja_C_would_18 rfl 1 (by decide) ?_
        refine q_isub (pc' := 20) ja_C_would_19 rfl ?_
        refine q_istore_n (pc' := 21) (ls' := [some (.ref 0), some (.int a1), some (.int ((s 60 0) - 1))]) ja_C_would_20 rfl ⟨Nat.le_of_ble_eq_true rfl, rfl⟩ rfl ?_
        refine q_aload_n (pc' := 22) ja_C_would_21 rfl rfl ?_
        refine q_getf (pc' := 25) (v := .ref 60) ja_C_would_22 rfl (by decide) ⟨rfl, by decide⟩ rfl ?_
        refine q_iload_n (pc' := 26) ja_C_would_25 rfl rfl ?_
        refine q_virt (pc' := 29) (c := 60) (as := [.int ((s 60 0) - 1)]) (r := []) ja_C_would_26 rfl rfl rfl (by decide) ⟨rfl, by decide⟩ ?_
        refine q_in (M := jm_Motions_has) rfl (Nat.le_of_ble_eq_true rfl) (ls := [some (.ref 60), some (.int ((s 60 0) - 1))]) rfl ?_
        refine q_iload_n (pc' := 1) ja_Motions_has_0 rfl rfl ?_
        refine q_if_lt (pc' := 4) ja_Motions_has_1 rfl ?_ ?_
        · intro h7
          refine q_iconst (pc' := 25) ja_Motions_has_24 rfl 0 (by decide) ?_
          refine q_iret ja_Motions_has_25 rfl (by decide) ?_
          show q_W _ _ _ _ 29 [some (.ref 0), some (.int a1), some (.int ((s 60 0) - 1))] [.int 0] s
          refine q_if_ne (pc' := 32) ja_C_would_29 rfl (fun h => absurd ((by decide : (0 : Int32) = 0)) h) (fun _ => ?_)
          refine q_iconst (pc' := 33) ja_C_would_32 rfl (-1) (by decide) ?_
          exact q_iret ja_C_would_33 rfl rfl (k4 h2 h4 h6 h7)
        · intro h8
          refine q_iload_n (pc' := 5) ja_Motions_has_4 rfl rfl ?_
          refine q_aload_n (pc' := 6) ja_Motions_has_5 rfl rfl ?_
          refine q_getf (pc' := 9) (v := .int (s 60 0)) ja_Motions_has_6 rfl (by decide) ⟨rfl, by decide⟩ rfl ?_
          refine q_ic_ge (pc' := 12) ja_Motions_has_9 rfl ?_ ?_
          · intro h9
            refine q_iconst (pc' := 25) ja_Motions_has_24 rfl 0 (by decide) ?_
            refine q_iret ja_Motions_has_25 rfl (by decide) ?_
            show q_W _ _ _ _ 29 [some (.ref 0), some (.int a1), some (.int ((s 60 0) - 1))] [.int 0] s
            refine q_if_ne (pc' := 32) ja_C_would_29 rfl (fun h => absurd ((by decide : (0 : Int32) = 0)) h) (fun _ => ?_)
            refine q_iconst (pc' := 33) ja_C_would_32 rfl (-1) (by decide) ?_
            exact q_iret ja_C_would_33 rfl rfl (k5 h2 h4 h6 h8 h9)
          · intro h10
            refine q_iload_n (pc' := 13) ja_Motions_has_12 rfl rfl ?_
            refine q_aload_n (pc' := 14) ja_Motions_has_13 rfl rfl ?_
            refine q_getf (pc' := 17) (v := .int (s 60 1)) ja_Motions_has_14 rfl (by decide) ⟨rfl, by decide⟩ rfl ?_
            refine q_ic_ge (pc' := 20) ja_Motions_has_17 rfl ?_ ?_
            · intro h11
              refine q_iconst (pc' := 25) ja_Motions_has_24 rfl 0 (by decide) ?_
              refine q_iret ja_Motions_has_25 rfl (by decide) ?_
              show q_W _ _ _ _ 29 [some (.ref 0), some (.int a1), some (.int ((s 60 0) - 1))] [.int 0] s
              refine q_if_ne (pc' := 32) ja_C_would_29 rfl (fun h => absurd ((by decide : (0 : Int32) = 0)) h) (fun _ => ?_)
              refine q_iconst (pc' := 33) ja_C_would_32 rfl (-1) (by decide) ?_
              exact q_iret ja_C_would_33 rfl rfl (k6 h2 h4 h6 h8 h10 h11)
            · intro h12
              refine q_iconst (pc' := 21) ja_Motions_has_20 rfl 1 (by decide) ?_
              refine q_goto ja_Motions_has_21 ?_
              refine q_iret ja_Motions_has_25 rfl (by decide) ?_
              show q_W _ _ _ _ 29 [some (.ref 0), some (.int a1), some (.int ((s 60 0) - 1))] [.int 1] s
              refine q_if_ne (pc' := 32) ja_C_would_29 rfl (fun _ => ?_) (fun h => absurd h ((by decide : ¬ (1 : Int32) = 0)))
              refine q_aload_n (pc' := 35) ja_C_would_34 rfl rfl ?_
              refine q_aload_n (pc' := 36) ja_C_would_35 rfl rfl ?_
              refine q_getf (pc' := 39) (v := .ref 1) ja_C_would_36 rfl (by decide) ⟨rfl, by decide⟩ rfl ?_
              refine q_iload_n (pc' := 40) ja_C_would_39 rfl rfl ?_
              refine q_aald (pc' := 41) (v := .ref (2 + 2 * a1.toNatClampNeg)) ja_C_would_40 rfl (by decide) (kd := 16) (l := 15) rfl (by decide) (q_inr (l := 15) (by decide) h2 h6) (f_A1 (f_in (q_inr (l := 15) (by decide) h2 h6))) ?_
              refine q_aload_n (pc' := 42) ja_C_would_41 rfl rfl ?_
              refine q_virt (pc' := 45) (c := 0) (as := []) (r := [.ref (2 + 2 * a1.toNatClampNeg), .ref 0]) ja_C_would_42 rfl rfl rfl (by decide) ⟨rfl, by decide⟩ ?_
              exact (k7 h2 h4 h6 h8 h10 h12)
theorem t2_C_would_45 {G : jv_X} {d : Nat} {B : Option Value → jg_H → Prop} {s : jg_H} (x1 : Int32) (x2 : Int32) {y1 : Nat} (hy1 : f_5 y1) {y2 : Nat} (hy2 : f_8 y2)
    (k1 : jv_in x2 8 = true)
    (k2 : q_P G (d + 1) 94 [.ref 0, .ref y1, .ref y2, .ref 60, .int x2, .int (s 63 x2.toNatClampNeg)] s (fun v t => q_W G (d + 1) jm_C_would B 62 [some (.ref 0), some (.int x1), some (.int x2)] (v.toList ++ []) t)) :
    q_W G (d + 1) jm_C_would B 45 [some (.ref 0), some (.int x1), some (.int x2)] [.ref y2, .ref y1, .ref 0] s := by
  refine q_aload_n (pc' := 46) ja_C_would_45 rfl rfl ?_
  refine q_getf (pc' := 49) (v := .ref 60) ja_C_would_46 rfl (by decide) ⟨rfl, by decide⟩ rfl ?_
  refine q_iload_n (pc' := 50) ja_C_would_49 rfl rfl ?_
  refine q_aload_n (pc' := 51) ja_C_would_50 rfl rfl ?_
  refine q_getf (pc' := 54) (v := .ref 60) ja_C_would_51 rfl (by decide) ⟨rfl, by decide⟩ rfl ?_
  refine q_getf (pc' := 57) (v := .ref 63) ja_C_would_54 rfl (by decide) ⟨rfl, by decide⟩ rfl ?_
  refine q_iload_n (pc' := 58) ja_C_would_57 rfl rfl ?_
  refine q_iald (pc' := 59) (v := .int (s 63 x2.toNatClampNeg)) ja_C_would_58 rfl (by decide) (l := 8) rfl k1 rfl ?_
  refine q_virt (pc' := 62) (c := 0) (as := [.ref y1, .ref y2, .ref 60, .int x2, .int (s 63 x2.toNatClampNeg)]) (r := []) ja_C_would_59 rfl rfl rfl (by decide) ⟨rfl, by decide⟩ ?_
  exact k2
theorem t2_C_would_62 {G : jv_X} {d : Nat} {B : Option Value → jg_H → Prop} {s : jg_H} (x1 : Int32) (x2 : Int32) (y0 : Int32)
    (k1 : B (some (.int y0)) s) :
    q_W G (d + 1) jm_C_would B 62 [some (.ref 0), some (.int x1), some (.int x2)] [.int y0] s := by
  exact q_iret ja_C_would_62 rfl rfl k1
theorem t2_M_leans {G : jv_X} {d : Nat} {B : Option Value → jg_H → Prop} {s : jg_H} (a1 : Int32) (a2 : Int32)
    (k1 : jv_in a1 13 = true)
    (k2 : (s 157 a1.toNatClampNeg) = 0 → q_P G d 170 [.ref 146, .int a2] s (fun v t => q_W G d jm_M_leans B 53 [some (.ref 146), some (.int a1), some (.int a2)] (v.toList ++ []) t))
    (k3 : ¬ (s 157 a1.toNatClampNeg) = 0 → (s 157 a1.toNatClampNeg) = 4 → q_P G d 170 [.ref 146, .int a2] s (fun v t => q_W G d jm_M_leans B 59 [some (.ref 146), some (.int a1), some (.int a2)] (v.toList ++ []) t))
    (k4 : ¬ (s 157 a1.toNatClampNeg) = 0 → ¬ (s 157 a1.toNatClampNeg) = 4 → (s 157 a1.toNatClampNeg) = 5 → q_P G d 170 [.ref 146, .int a2] s (fun v t => q_W G d jm_M_leans B 66 [some (.ref 146), some (.int a1), some (.int a2)] (v.toList ++ []) t))
    (k5 : ¬ (s 157 a1.toNatClampNeg) = 0 → ¬ (s 157 a1.toNatClampNeg) = 4 → ¬ (s 157 a1.toNatClampNeg) = 5 → (s 157 a1.toNatClampNeg) = 6 → jv_in a2 15 = true)
    (k6 : ¬ (s 157 a1.toNatClampNeg) = 0 → ¬ (s 157 a1.toNatClampNeg) = 4 → ¬ (s 157 a1.toNatClampNeg) = 5 → (s 157 a1.toNatClampNeg) = 6 → jv_in a1 13 = true)
    (k7 : ¬ (s 157 a1.toNatClampNeg) = 0 → ¬ (s 157 a1.toNatClampNeg) = 4 → ¬ (s 157 a1.toNatClampNeg) = 5 → (s 157 a1.toNatClampNeg) = 6 → jv_in (s 158 a1.toNatClampNeg) 15 = true)
    (k8 : ¬ (s 157 a1.toNatClampNeg) = 0 → ¬ (s 157 a1.toNatClampNeg) = 4 → ¬ (s 157 a1.toNatClampNeg) = 5 → (s 157 a1.toNatClampNeg) = 6 → ¬ (s 147 a2.toNatClampNeg) = (s 147 (s 158 a1.toNatClampNeg).toNatClampNeg) → B (some (.int (-1))) s)
    (k9 : ¬ (s 157 a1.toNatClampNeg) = 0 → ¬ (s 157 a1.toNatClampNeg) = 4 → ¬ (s 157 a1.toNatClampNeg) = 5 → (s 157 a1.toNatClampNeg) = 6 → (s 147 a2.toNatClampNeg) = (s 147 (s 158 a1.toNatClampNeg).toNatClampNeg) → B (some (.int 1)) s)
    (k10 : ¬ (s 157 a1.toNatClampNeg) = 0 → ¬ (s 157 a1.toNatClampNeg) = 4 → ¬ (s 157 a1.toNatClampNeg) = 5 → ¬ (s 157 a1.toNatClampNeg) = 6 → q_P G d 193 [.ref 146, .int a1, .int a2] s (fun v t => q_W G d jm_M_leans B 107 [some (.ref 146), some (.int a1), some (.int a2)] (v.toList ++ []) t)) :
    q_P G (d + 1) 192 [.ref 146, .int a1, .int a2] s B := by
  refine q_in (M := jm_M_leans) rfl (Nat.le_of_ble_eq_true rfl) (ls := [some (.ref 146), some (.int a1), some (.int a2)]) rfl ?_
  refine q_aload_n (pc' := 1) ja_M_leans_0 rfl rfl ?_
  refine q_getf (pc' := 4) (v := .ref 157) ja_M_leans_1 rfl (by decide) ⟨rfl, by decide⟩ rfl ?_
  refine q_iload_n (pc' := 5) ja_M_leans_4 rfl rfl ?_
  refine q_iald (pc' := 6) (v := .int (s 157 a1.toNatClampNeg)) ja_M_leans_5 rfl (by decide) (l := 13) rfl k1 rfl ?_
  by_cases h1 : (s 157 a1.toNatClampNeg) = 0
  · refine q_swE (pc' := 48) ja_M_leans_6 (by rw [h1]; decide) (by rw [h1]; exact ⟨_, rfl, rfl⟩) ?_
    refine q_aload_n (pc' := 49) ja_M_leans_48 rfl rfl ?_
    refine q_iload_n (pc' := 50) ja_M_leans_49 rfl rfl ?_
    refine q_virt (pc' := 53) (c := 146) (as := [.int a2]) (r := []) ja_M_leans_50 rfl rfl rfl (by decide) ⟨rfl, by decide⟩ ?_
    exact (k2 h1)
  by_cases h2 : (s 157 a1.toNatClampNeg) = 4
  · refine q_swE (pc' := 54) ja_M_leans_6 (by rw [h2]; decide) (by rw [h2]; exact ⟨_, rfl, rfl⟩) ?_
    refine q_aload_n (pc' := 55) ja_M_leans_54 rfl rfl ?_
    refine q_iload_n (pc' := 56) ja_M_leans_55 rfl rfl ?_
    refine q_virt (pc' := 59) (c := 146) (as := [.int a2]) (r := []) ja_M_leans_56 rfl rfl rfl (by decide) ⟨rfl, by decide⟩ ?_
    exact (k3 h1 h2)
  by_cases h3 : (s 157 a1.toNatClampNeg) = 5
  · refine q_swE (pc' := 61) ja_M_leans_6 (by rw [h3]; decide) (by rw [h3]; exact ⟨_, rfl, rfl⟩) ?_
    refine q_aload_n (pc' := 62) ja_M_leans_61 rfl rfl ?_
    refine q_iload_n (pc' := 63) ja_M_leans_62 rfl rfl ?_
    refine q_virt (pc' := 66) (c := 146) (as := [.int a2]) (r := []) ja_M_leans_63 rfl rfl rfl (by decide) ⟨rfl, by decide⟩ ?_
    exact (k4 h1 h2 h3)
  by_cases h4 : (s 157 a1.toNatClampNeg) = 6
  · refine q_swE (pc' := 75) ja_M_leans_6 (by rw [h4]; decide) (by rw [h4]; exact ⟨_, rfl, rfl⟩) ?_
    refine q_aload_n (pc' := 76) ja_M_leans_75 rfl rfl ?_
    refine q_getf (pc' := 79) (v := .ref 147) ja_M_leans_76 rfl (by decide) ⟨rfl, by decide⟩ rfl ?_
    refine q_iload_n (pc' := 80) ja_M_leans_79 rfl rfl ?_
    refine q_iald (pc' := 81) (v := .int (s 147 a2.toNatClampNeg)) ja_M_leans_80 rfl (by decide) (l := 15) rfl (k5 h1 h2 h3 h4) rfl ?_
    refine q_aload_n (pc' := 82) ja_M_leans_81 rfl rfl ?_
    refine q_getf (pc' := 85) (v := .ref 147) ja_M_leans_82 rfl (by decide) ⟨rfl, by decide⟩ rfl ?_
    refine q_aload_n (pc' := 86) ja_M_leans_85 rfl rfl ?_
    refine q_getf (pc' := 89) (v := .ref 158) ja_M_leans_86 rfl (by decide) ⟨rfl, by decide⟩ rfl ?_
    refine q_iload_n (pc' := 90) ja_M_leans_89 rfl rfl ?_
    refine q_iald (pc' := 91) (v := .int (s 158 a1.toNatClampNeg)) ja_M_leans_90 rfl (by decide) (l := 13) rfl (k6 h1 h2 h3 h4) rfl ?_
    refine q_iald (pc' := 92) (v := .int (s 147 (s 158 a1.toNatClampNeg).toNatClampNeg)) ja_M_leans_91 rfl (by decide) (l := 15) rfl (k7 h1 h2 h3 h4) rfl ?_
    refine q_ic_ne (pc' := 95) ja_M_leans_92 rfl ?_ ?_
    · intro h5
      refine q_iconst (pc' := 100) ja_M_leans_99 rfl (-1) (by decide) ?_
      exact q_iret ja_M_leans_100 rfl rfl (k8 h1 h2 h3 h4 h5)
    · intro h6
      refine q_iconst (pc' := 96) ja_M_leans_95 rfl 1 (by decide) ?_
      refine q_goto ja_M_leans_96 ?_
      exact q_iret ja_M_leans_100 rfl rfl (k9 h1 h2 h3 h4 h6)
  refine q_swD (pc' := 101) ja_M_leans_6 [0, 4, 5, 6] (List.forall_mem_cons.mpr ⟨fun e => h1 (by rw [e]; decide), (List.forall_mem_cons.mpr ⟨fun e => h2 (by rw [e]; decide), (List.forall_mem_cons.mpr ⟨fun e => h3 (by rw [e]; decide), (List.forall_mem_cons.mpr ⟨fun e => h4 (by rw [e]; decide), (List.forall_mem_nil _)⟩)⟩)⟩)⟩) (by decide) rfl ?_
  refine q_aload_n (pc' := 102) ja_M_leans_101 rfl rfl ?_
  refine q_iload_n (pc' := 103) ja_M_leans_102 rfl rfl ?_
  refine q_iload_n (pc' := 104) ja_M_leans_103 rfl rfl ?_
  refine q_virt (pc' := 107) (c := 146) (as := [.int a1, .int a2]) (r := []) ja_M_leans_104 rfl rfl rfl (by decide) ⟨rfl, by decide⟩ ?_
  exact (k10 h1 h2 h3 h4)
theorem t2_M_leans_53 {G : jv_X} {d : Nat} {B : Option Value → jg_H → Prop} {s : jg_H} (x1 : Int32) (x2 : Int32) (y0 : Int32)
    (k1 : B (some (.int y0)) s) :
    q_W G d jm_M_leans B 53 [some (.ref 146), some (.int x1), some (.int x2)] [.int y0] s := by
  exact q_iret ja_M_leans_53 rfl rfl k1
theorem t2_M_leans_59 {G : jv_X} {d : Nat} {B : Option Value → jg_H → Prop} {s : jg_H} (x1 : Int32) (x2 : Int32) (y0 : Int32)
    (k1 : B (some (.int (-y0))) s) :
    q_W G d jm_M_leans B 59 [some (.ref 146), some (.int x1), some (.int x2)] [.int y0] s := by
  refine q_ineg (pc' := 60) ja_M_leans_59 rfl ?_
  exact q_iret ja_M_leans_60 rfl rfl k1
theorem t2_M_leans_66 {G : jv_X} {d : Nat} {B : Option Value → jg_H → Prop} {s : jg_H} (x1 : Int32) (x2 : Int32) (y0 : Int32)
    (k1 : ¬ y0 = 0 → B (some (.int (-1))) s)
    (k2 : y0 = 0 → B (some (.int 1)) s) :
    q_W G d jm_M_leans B 66 [some (.ref 146), some (.int x1), some (.int x2)] [.int y0] s := by
  refine q_if_ne (pc' := 69) ja_M_leans_66 rfl ?_ ?_
  · intro h1
    refine q_iconst (pc' := 74) ja_M_leans_73 rfl (-1) (by decide) ?_
    exact q_iret ja_M_leans_74 rfl rfl (k1 h1)
  · intro h2
    refine q_iconst (pc' := 70) ja_M_leans_69 rfl 1 (by decide) ?_
    refine q_goto ja_M_leans_70 ?_
    exact q_iret ja_M_leans_74 rfl rfl (k2 h2)
theorem t2_M_leans_107 {G : jv_X} {d : Nat} {B : Option Value → jg_H → Prop} {s : jg_H} (x1 : Int32) (x2 : Int32) (y0 : Int32)
    (k1 : B (some (.int y0)) s) :
    q_W G d jm_M_leans B 107 [some (.ref 146), some (.int x1), some (.int x2)] [.int y0] s := by
  exact q_iret ja_M_leans_107 rfl rfl k1
theorem t2_M_gain {G : jv_X} {d : Nat} {B : Option Value → jg_H → Prop} {s : jg_H} (a1 : Int32) (a2 : Int32)
    (k1 : q_P G d 194 [.ref 146, .int a1] s (fun v t => q_W G d jm_M_gain B 5 [some (.ref 146), some (.int a1), some (.int a2), none, none] (v.toList ++ []) t)) :
    q_P G (d + 1) 193 [.ref 146, .int a1, .int a2] s B := by
  refine q_in (M := jm_M_gain) rfl (Nat.le_of_ble_eq_true rfl) (ls := [some (.ref 146), some (.int a1), some (.int a2), none, none]) rfl ?_
  refine q_aload_n (pc' := 1) ja_M_gain_0 rfl rfl ?_
  refine q_iload_n (pc' := 2) ja_M_gain_1 rfl rfl ?_
  refine q_virt (pc' := 5) (c := 146) (as := [.int a1]) (r := []) ja_M_gain_2 rfl rfl rfl (by decide) ⟨rfl, by decide⟩ ?_
  exact k1
theorem t2_M_gain_5 {G : jv_X} {d : Nat} {B : Option Value → jg_H → Prop} {s : jg_H} (x1 : Int32) (x2 : Int32) (y0 : Int32)
    (k1 : ¬ y0 = 0 → jv_in x1 13 = true)
    (k2 : ¬ y0 = 0 → ¬ (s 157 x1.toNatClampNeg) = 2 → q_P G d 195 [.ref 146, .int x1] s (fun v t => q_W G d jm_M_gain B 41 [some (.ref 146), some (.int x1), some (.int x2), none, none] (v.toList ++ [.ref 171, .int (61 * x2), .ref 148]) t))
    (k3 : ¬ y0 = 0 → (s 157 x1.toNatClampNeg) = 2 → jv_in x1 13 = true)
    (k4 : ¬ y0 = 0 → (s 157 x1.toNatClampNeg) = 2 → ¬ (s 157 x1.toNatClampNeg) = 1 → jv_in x1 13 = true)
    (k5 : ¬ y0 = 0 → (s 157 x1.toNatClampNeg) = 2 → ¬ (s 157 x1.toNatClampNeg) = 1 → jv_in ((61 * x2) + (s 160 x1.toNatClampNeg)) 915 = true)
    (k6 : ¬ y0 = 0 → (s 157 x1.toNatClampNeg) = 2 → ¬ (s 157 x1.toNatClampNeg) = 1 → B (some (.int ((s 148 ((61 * x2) + (s 160 x1.toNatClampNeg)).toNatClampNeg) - 0))) s)
    (k7 : ¬ y0 = 0 → (s 157 x1.toNatClampNeg) = 2 → (s 157 x1.toNatClampNeg) = 1 → B (some (.int 0)) s)
    (k8 : y0 = 0 → B (some (.int 0)) s) :
    q_W G d jm_M_gain B 5 [some (.ref 146), some (.int x1), some (.int x2), none, none] [.int y0] s := by
  refine q_if_ne (pc' := 8) ja_M_gain_5 rfl ?_ ?_
  · intro h1
    refine q_aload_n (pc' := 11) ja_M_gain_10 rfl rfl ?_
    refine q_getf (pc' := 14) (v := .ref 157) ja_M_gain_11 rfl (by decide) ⟨rfl, by decide⟩ rfl ?_
    refine q_iload_n (pc' := 15) ja_M_gain_14 rfl rfl ?_
    refine q_iald (pc' := 16) (v := .int (s 157 x1.toNatClampNeg)) ja_M_gain_15 rfl (by decide) (l := 13) rfl (k1 h1) rfl ?_
    refine q_iconst (pc' := 17) ja_M_gain_16 rfl 2 (by decide) ?_
    refine q_ic_ne (pc' := 20) ja_M_gain_17 rfl ?_ ?_
    · intro h2
      refine q_aload_n (pc' := 25) ja_M_gain_24 rfl rfl ?_
      refine q_getf (pc' := 28) (v := .ref 148) ja_M_gain_25 rfl (by decide) ⟨rfl, by decide⟩ rfl ?_
      refine q_bipush (pc' := 30) ja_M_gain_28 rfl 61 (by decide) ?_
      refine q_iload_n (pc' := 31) ja_M_gain_30 rfl rfl ?_
      refine q_imul (pc' := 32) ja_M_gain_31 rfl ?_
      refine q_aload_n (pc' := 33) ja_M_gain_32 rfl rfl ?_
      refine q_getf (pc' := 36) (v := .ref 171) ja_M_gain_33 rfl (by decide) ⟨rfl, by decide⟩ rfl ?_
      refine q_aload_n (pc' := 37) ja_M_gain_36 rfl rfl ?_
      refine q_iload_n (pc' := 38) ja_M_gain_37 rfl rfl ?_
      refine q_virt (pc' := 41) (c := 146) (as := [.int x1]) (r := [.ref 171, .int (61 * x2), .ref 148]) ja_M_gain_38 rfl rfl rfl (by decide) ⟨rfl, by decide⟩ ?_
      exact (k2 h1 h2)
    · intro h3
      refine q_iconst (pc' := 21) ja_M_gain_20 rfl 0 (by decide) ?_
      refine q_goto ja_M_gain_21 ?_
      refine q_istore_n (pc' := 45) (ls' := [some (.ref 146), some (.int x1), some (.int x2), some (.int 0), none]) ja_M_gain_44 rfl ⟨Nat.le_of_ble_eq_true rfl, rfl⟩ rfl ?_
      refine q_aload_n (pc' := 46) ja_M_gain_45 rfl rfl ?_
      refine q_getf (pc' := 49) (v := .ref 157) ja_M_gain_46 rfl (by decide) ⟨rfl, by decide⟩ rfl ?_
      refine q_iload_n (pc' := 50) ja_M_gain_49 rfl rfl ?_
      refine q_iald (pc' := 51) (v := .int (s 157 x1.toNatClampNeg)) ja_M_gain_50 rfl (by decide) (l := 13) rfl (k3 h1 h3) rfl ?_
      refine q_iconst (pc' := 52) ja_M_gain_51 rfl 1 (by decide) ?_
      refine q_ic_ne (pc' := 55) ja_M_gain_52 rfl ?_ ?_
      · intro h4
        refine q_aload_n (pc' := 60) ja_M_gain_59 rfl rfl ?_
        refine q_getf (pc' := 63) (v := .ref 148) ja_M_gain_60 rfl (by decide) ⟨rfl, by decide⟩ rfl ?_
        refine q_bipush (pc' := 65) ja_M_gain_63 rfl 61 (by decide) ?_
        refine q_iload_n (pc' := 66) ja_M_gain_65 rfl rfl ?_
        refine q_imul (pc' := 67) ja_M_gain_66 rfl ?_
        refine q_aload_n (pc' := 68) ja_M_gain_67 rfl rfl ?_
        refine q_getf (pc' := 71) (v := .ref 160) ja_M_gain_68 rfl (by decide) ⟨rfl, by decide⟩ rfl ?_
        refine q_iload_n (pc' := 72) ja_M_gain_71 rfl rfl ?_
        refine q_iald (pc' := 73) (v := .int (s 160 x1.toNatClampNeg)) ja_M_gain_72 rfl (by decide) (l := 13) rfl (k4 h1 h3 h4) rfl ?_
        refine q_iadd (pc' := 74) ja_M_gain_73 rfl ?_
        refine q_iald (pc' := 75) (v := .int (s 148 ((61 * x2) + (s 160 x1.toNatClampNeg)).toNatClampNeg)) ja_M_gain_74 rfl (by decide) (l := 915) rfl (k5 h1 h3 h4) rfl ?_
        refine q_istore (pc' := 77) (ls' := [some (.ref 146), some (.int x1), some (.int x2), some (.int 0), some (.int (s 148 ((61 * x2) + (s 160 x1.toNatClampNeg)).toNatClampNeg))]) ja_M_gain_75 rfl ⟨Nat.le_of_ble_eq_true rfl, rfl⟩ rfl ?_
        refine q_iload (pc' := 79) ja_M_gain_77 rfl rfl ?_
        refine q_iload_n (pc' := 80) ja_M_gain_79 rfl rfl ?_
        refine q_isub (pc' := 81) ja_M_gain_80 rfl ?_
        exact q_iret ja_M_gain_81 rfl rfl (k6 h1 h3 h4)
      · intro h5
        refine q_iconst (pc' := 56) ja_M_gain_55 rfl 0 (by decide) ?_
        refine q_goto ja_M_gain_56 ?_
        refine q_istore (pc' := 77) (ls' := [some (.ref 146), some (.int x1), some (.int x2), some (.int 0), some (.int 0)]) ja_M_gain_75 rfl ⟨Nat.le_of_ble_eq_true rfl, rfl⟩ rfl ?_
        refine q_iload (pc' := 79) ja_M_gain_77 rfl rfl ?_
        refine q_iload_n (pc' := 80) ja_M_gain_79 rfl rfl ?_
        refine q_isub (pc' := 81) ja_M_gain_80 rfl ?_
        rw [show ((0 - 0) : Int32) = 0 from by decide]
        exact q_iret ja_M_gain_81 rfl rfl (k7 h1 h3 h5)
  · intro h6
    refine q_iconst (pc' := 9) ja_M_gain_8 rfl 0 (by decide) ?_
    exact q_iret ja_M_gain_9 rfl rfl (k8 h6)
theorem t2_M_gain_41 {G : jv_X} {d : Nat} {B : Option Value → jg_H → Prop} {s : jg_H} (x1 : Int32) (x2 : Int32) (y1 : Int32) (y3 : Int32)
    (k1 : jv_in y3 11 = true)
    (k2 : jv_in (y1 + (s 171 y3.toNatClampNeg)) 915 = true)
    (k3 : jv_in x1 13 = true)
    (k4 : ¬ (s 157 x1.toNatClampNeg) = 1 → jv_in x1 13 = true)
    (k5 : ¬ (s 157 x1.toNatClampNeg) = 1 → jv_in ((61 * x2) + (s 160 x1.toNatClampNeg)) 915 = true)
    (k6 : ¬ (s 157 x1.toNatClampNeg) = 1 → B (some (.int ((s 148 ((61 * x2) + (s 160 x1.toNatClampNeg)).toNatClampNeg) - (s 148 (y1 + (s 171 y3.toNatClampNeg)).toNatClampNeg)))) s)
    (k7 : (s 157 x1.toNatClampNeg) = 1 → B (some (.int (0 - (s 148 (y1 + (s 171 y3.toNatClampNeg)).toNatClampNeg)))) s) :
    q_W G d jm_M_gain B 41 [some (.ref 146), some (.int x1), some (.int x2), none, none] [.int y3, .ref 171, .int y1, .ref 148] s := by
  refine q_iald (pc' := 42) (v := .int (s 171 y3.toNatClampNeg)) ja_M_gain_41 rfl (by decide) (l := 11) rfl k1 rfl ?_
  refine q_iadd (pc' := 43) ja_M_gain_42 rfl ?_
  refine q_iald (pc' := 44) (v := .int (s 148 (y1 + (s 171 y3.toNatClampNeg)).toNatClampNeg)) ja_M_gain_43 rfl (by decide) (l := 915) rfl k2 rfl ?_
  refine q_istore_n (pc' := 45) (ls' := [some (.ref 146), some (.int x1), some (.int x2), some (.int (s 148 (y1 + (s 171 y3.toNatClampNeg)).toNatClampNeg)), none]) ja_M_gain_44 rfl ⟨Nat.le_of_ble_eq_true rfl, rfl⟩ rfl ?_
  refine q_aload_n (pc' := 46) ja_M_gain_45 rfl rfl ?_
  refine q_getf (pc' := 49) (v := .ref 157) ja_M_gain_46 rfl (by decide) ⟨rfl, by decide⟩ rfl ?_
  refine q_iload_n (pc' := 50) ja_M_gain_49 rfl rfl ?_
  refine q_iald (pc' := 51) (v := .int (s 157 x1.toNatClampNeg)) ja_M_gain_50 rfl (by decide) (l := 13) rfl k3 rfl ?_
  refine q_iconst (pc' := 52) ja_M_gain_51 rfl 1 (by decide) ?_
  refine q_ic_ne (pc' := 55) ja_M_gain_52 rfl ?_ ?_
  · intro h1
    refine q_aload_n (pc' := 60) ja_M_gain_59 rfl rfl ?_
    refine q_getf (pc' := 63) (v := .ref 148) ja_M_gain_60 rfl (by decide) ⟨rfl, by decide⟩ rfl ?_
    refine q_bipush (pc' := 65) ja_M_gain_63 rfl 61 (by decide) ?_
    refine q_iload_n (pc' := 66) ja_M_gain_65 rfl rfl ?_
    refine q_imul (pc' := 67) ja_M_gain_66 rfl ?_
    refine q_aload_n (pc' := 68) ja_M_gain_67 rfl rfl ?_
    refine q_getf (pc' := 71) (v := .ref 160) ja_M_gain_68 rfl (by decide) ⟨rfl, by decide⟩ rfl ?_
    refine q_iload_n (pc' := 72) ja_M_gain_71 rfl rfl ?_
    refine q_iald (pc' := 73) (v := .int (s 160 x1.toNatClampNeg)) ja_M_gain_72 rfl (by decide) (l := 13) rfl (k4 h1) rfl ?_
    refine q_iadd (pc' := 74) ja_M_gain_73 rfl ?_
    refine q_iald (pc' := 75) (v := .int (s 148 ((61 * x2) + (s 160 x1.toNatClampNeg)).toNatClampNeg)) ja_M_gain_74 rfl (by decide) (l := 915) rfl (k5 h1) rfl ?_
    refine q_istore (pc' := 77) (ls' := [some (.ref 146), some (.int x1), some (.int x2), some (.int (s 148 (y1 + (s 171 y3.toNatClampNeg)).toNatClampNeg)), some (.int (s 148 ((61 * x2) + (s 160 x1.toNatClampNeg)).toNatClampNeg))]) ja_M_gain_75 rfl ⟨Nat.le_of_ble_eq_true rfl, rfl⟩ rfl ?_
    refine q_iload (pc' := 79) ja_M_gain_77 rfl rfl ?_
    refine q_iload_n (pc' := 80) ja_M_gain_79 rfl rfl ?_
    refine q_isub (pc' := 81) ja_M_gain_80 rfl ?_
    exact q_iret ja_M_gain_81 rfl rfl (k6 h1)
  · intro h2
    refine q_iconst (pc' := 56) ja_M_gain_55 rfl 0 (by decide) ?_
    refine q_goto ja_M_gain_56 ?_
    refine q_istore (pc' := 77) (ls' := [some (.ref 146), some (.int x1), some (.int x2), some (.int (s 148 (y1 + (s 171 y3.toNatClampNeg)).toNatClampNeg)), some (.int 0)]) ja_M_gain_75 rfl ⟨Nat.le_of_ble_eq_true rfl, rfl⟩ rfl ?_
    refine q_iload (pc' := 79) ja_M_gain_77 rfl rfl ?_
    refine q_iload_n (pc' := 80) ja_M_gain_79 rfl rfl ?_
    refine q_isub (pc' := 81) ja_M_gain_80 rfl ?_
    exact q_iret ja_M_gain_81 rfl rfl (k7 h2)
