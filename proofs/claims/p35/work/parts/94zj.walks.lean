/-! walks of a conference, with calls left -/
theorem t2_Conference_leastNext {G : jv_X} {d : Nat} {B : Option Value → jg_H → Prop} {s : jg_H} {c1 : Nat} (hc1 : f_8 c1) {c2 : Nat} (hc2 : f_8 c2) (a3 : Int32) (a4 : Int32) (a5 : Int32)
    (k1 : q_W G d jm_Conference_leastNext B 7 [some (.ref 123), some (.ref c1), some (.ref c2), some (.int a3), some (.int a4), some (.int a5), some (.int 61), some (.int a3), none, none] [] s) :
    q_P G (d + 1) 120 [.ref 123, .ref c1, .ref c2, .int a3, .int a4, .int a5] s B := by
  refine q_in (M := jm_Conference_leastNext) rfl (Nat.le_of_ble_eq_true rfl) (ls := [some (.ref 123), some (.ref c1), some (.ref c2), some (.int a3), some (.int a4), some (.int a5), none, none, none, none]) rfl ?_
  refine q_bipush (pc' := 2) ja_Conference_leastNext_0 rfl 61 (by decide) ?_
  refine q_istore (pc' := 4) (ls' := [some (.ref 123), some (.ref c1), some (.ref c2), some (.int a3), some (.int a4), some (.int a5), some (.int 61), none, none, none]) ja_Conference_leastNext_2 rfl ⟨Nat.le_of_ble_eq_true rfl, rfl⟩ rfl ?_
  refine q_iload_n (pc' := 5) ja_Conference_leastNext_4 rfl rfl ?_
  refine q_istore (pc' := 7) (ls' := [some (.ref 123), some (.ref c1), some (.ref c2), some (.int a3), some (.int a4), some (.int a5), some (.int 61), some (.int a3), none, none]) ja_Conference_leastNext_5 rfl ⟨Nat.le_of_ble_eq_true rfl, rfl⟩ rfl ?_
  exact k1
theorem t2_Conference_leastNext_7 {G : jv_X} {d : Nat} {B : Option Value → jg_H → Prop} {s : jg_H} {x1 : Nat} (hx1 : f_8 x1) {x2 : Nat} (hx2 : f_8 x2) (x3 : Int32) (x4 : Int32) (x5 : Int32) (x6 : Int32) (x7 : Int32) {o8 : Option Value} (ho8 : f_n o8 = true) {o9 : Option Value} (ho9 : f_n o9 = true)
    (k1 : ¬ x7 < (s x1 0) → B (some (.int x6)) s)
    (k2 : x7 < (s x1 0) → q_P G d 62 [.ref x1, .int x7] s (fun v t => q_W G d jm_Conference_leastNext B 22 [some (.ref 123), some (.ref x1), some (.ref x2), some (.int x3), some (.int x4), some (.int x5), some (.int x6), some (.int x7), o8, o9] (v.toList ++ []) t)) :
    q_W G d jm_Conference_leastNext B 7 [some (.ref 123), some (.ref x1), some (.ref x2), some (.int x3), some (.int x4), some (.int x5), some (.int x6), some (.int x7), o8, o9] [] s := by
  refine q_iload (pc' := 9) ja_Conference_leastNext_7 rfl rfl ?_
  refine q_aload_n (pc' := 10) ja_Conference_leastNext_9 rfl rfl ?_
  refine q_getf (pc' := 13) (v := .int (s x1 0)) ja_Conference_leastNext_10 rfl (f_8_c hx1) ⟨by rw [f_8_k hx1], by decide⟩ (f_i (f_8_k hx1) rfl) ?_
  refine q_ic_ge (pc' := 16) ja_Conference_leastNext_13 rfl ?_ ?_
  · intro h1
    refine q_iload (pc' := 81) ja_Conference_leastNext_79 rfl rfl ?_
    exact q_iret ja_Conference_leastNext_81 rfl rfl (k1 h1)
  · intro h2
    refine q_aload_n (pc' := 17) ja_Conference_leastNext_16 rfl rfl ?_
    refine q_iload (pc' := 19) ja_Conference_leastNext_17 rfl rfl ?_
    refine q_virt (pc' := 22) (c := x1) (as := [.int x7]) (r := []) ja_Conference_leastNext_19 rfl rfl rfl (f_8_c hx1) ⟨by rw [f_8_k hx1], by decide⟩ ?_
    exact (k2 h2)
theorem t2_Conference_leastNext_22 {G : jv_X} {d : Nat} {B : Option Value → jg_H → Prop} {s : jg_H} {x1 : Nat} (hx1 : f_8 x1) {x2 : Nat} (hx2 : f_8 x2) (x3 : Int32) (x4 : Int32) (x5 : Int32) (x6 : Int32) (x7 : Int32) {o8 : Option Value} (ho8 : f_n o8 = true) {o9 : Option Value} (ho9 : f_n o9 = true) (y0 : Int32)
    (k1 : q_P G d 121 [.ref x2, .int x4, .int y0] s (fun v t => q_W G d jm_Conference_leastNext B 32 [some (.ref 123), some (.ref x1), some (.ref x2), some (.int x3), some (.int x4), some (.int x5), some (.int x6), some (.int x7), some (.int y0), o9] (v.toList ++ []) t)) :
    q_W G d jm_Conference_leastNext B 22 [some (.ref 123), some (.ref x1), some (.ref x2), some (.int x3), some (.int x4), some (.int x5), some (.int x6), some (.int x7), o8, o9] [.int y0] s := by
  refine q_istore (pc' := 24) (ls' := [some (.ref 123), some (.ref x1), some (.ref x2), some (.int x3), some (.int x4), some (.int x5), some (.int x6), some (.int x7), some (.int y0), o9]) ja_Conference_leastNext_22 rfl ⟨Nat.le_of_ble_eq_true rfl, rfl⟩ rfl ?_
  refine q_aload_n (pc' := 25) ja_Conference_leastNext_24 rfl rfl ?_
  refine q_iload (pc' := 27) ja_Conference_leastNext_25 rfl rfl ?_
  refine q_iload (pc' := 29) ja_Conference_leastNext_27 rfl rfl ?_
  refine q_stat (pc' := 32) (as := [.ref x2, .int x4, .int y0]) (r := []) ja_Conference_leastNext_29 rfl (by decide) rfl rfl ?_
  exact k1
theorem t2_Conference_leastNext_32 {G : jv_X} {d : Nat} {B : Option Value → jg_H → Prop} {s : jg_H} {x1 : Nat} (hx1 : f_8 x1) {x2 : Nat} (hx2 : f_8 x2) (x3 : Int32) (x4 : Int32) (x5 : Int32) (x6 : Int32) (x7 : Int32) (x8 : Int32) {o9 : Option Value} (ho9 : f_n o9 = true) (y0 : Int32)
    (k1 : ¬ x8 < x6 → q_W G d jm_Conference_leastNext B 7 [some (.ref 123), some (.ref x1), some (.ref x2), some (.int x3), some (.int x4), some (.int x5), some (.int x6), some (.int (x7 + 1)), some (.int x8), some (.int y0)] [] s)
    (k2 : x8 < x6 → ¬ y0 < (s x2 0) → q_W G d jm_Conference_leastNext B 7 [some (.ref 123), some (.ref x1), some (.ref x2), some (.int x3), some (.int x4), some (.int x5), some (.int x6), some (.int (x7 + 1)), some (.int x8), some (.int y0)] [] s)
    (k3 : x8 < x6 → y0 < (s x2 0) → jv_in (x7 + 1) 11 = true)
    (k4 : x8 < x6 → y0 < (s x2 0) → jv_in (y0 + 1) 11 = true)
    (k5 : x8 < x6 → y0 < (s x2 0) → (s (126 + (x7 + 1).toNatClampNeg) (y0 + 1).toNatClampNeg) < x5 → q_W G d jm_Conference_leastNext B 7 [some (.ref 123), some (.ref x1), some (.ref x2), some (.int x3), some (.int x4), some (.int x5), some (.int x6), some (.int (x7 + 1)), some (.int x8), some (.int y0)] [] s)
    (k6 : x8 < x6 → y0 < (s x2 0) → ¬ (s (126 + (x7 + 1).toNatClampNeg) (y0 + 1).toNatClampNeg) < x5 → q_W G d jm_Conference_leastNext B 7 [some (.ref 123), some (.ref x1), some (.ref x2), some (.int x3), some (.int x4), some (.int x5), some (.int x8), some (.int (x7 + 1)), some (.int x8), some (.int y0)] [] s) :
    q_W G d jm_Conference_leastNext B 32 [some (.ref 123), some (.ref x1), some (.ref x2), some (.int x3), some (.int x4), some (.int x5), some (.int x6), some (.int x7), some (.int x8), o9] [.int y0] s := by
  refine q_istore (pc' := 34) (ls' := [some (.ref 123), some (.ref x1), some (.ref x2), some (.int x3), some (.int x4), some (.int x5), some (.int x6), some (.int x7), some (.int x8), some (.int y0)]) ja_Conference_leastNext_32 rfl ⟨Nat.le_of_ble_eq_true rfl, rfl⟩ rfl ?_
  refine q_iload (pc' := 36) ja_Conference_leastNext_34 rfl rfl ?_
  refine q_iload (pc' := 38) ja_Conference_leastNext_36 rfl rfl ?_
  refine q_ic_ge (pc' := 41) ja_Conference_leastNext_38 rfl ?_ ?_
  · intro h1
    refine q_iinc (pc' := 76) (ls' := [some (.ref 123), some (.ref x1), some (.ref x2), some (.int x3), some (.int x4), some (.int x5), some (.int x6), some (.int (x7 + 1)), some (.int x8), some (.int y0)]) ja_Conference_leastNext_73 rfl rfl (x7 + 1) rfl ⟨Nat.le_of_ble_eq_true rfl, rfl⟩ rfl ?_
    refine q_goto ja_Conference_leastNext_76 ?_
    exact (k1 h1)
  · intro h2
    refine q_iload (pc' := 43) ja_Conference_leastNext_41 rfl rfl ?_
    refine q_aload_n (pc' := 44) ja_Conference_leastNext_43 rfl rfl ?_
    refine q_getf (pc' := 47) (v := .int (s x2 0)) ja_Conference_leastNext_44 rfl (f_8_c hx2) ⟨by rw [f_8_k hx2], by decide⟩ (f_i (f_8_k hx2) rfl) ?_
    refine q_ic_ge (pc' := 50) ja_Conference_leastNext_47 rfl ?_ ?_
    · intro h3
      refine q_iinc (pc' := 76) (ls' := [some (.ref 123), some (.ref x1), some (.ref x2), some (.int x3), some (.int x4), some (.int x5), some (.int x6), some (.int (x7 + 1)), some (.int x8), some (.int y0)]) ja_Conference_leastNext_73 rfl rfl (x7 + 1) rfl ⟨Nat.le_of_ble_eq_true rfl, rfl⟩ rfl ?_
      refine q_goto ja_Conference_leastNext_76 ?_
      exact (k2 h2 h3)
    · intro h4
      refine q_aload_n (pc' := 51) ja_Conference_leastNext_50 rfl rfl ?_
      refine q_getf (pc' := 54) (v := .ref 125) ja_Conference_leastNext_51 rfl (by decide) ⟨rfl, by decide⟩ rfl ?_
      refine q_iload (pc' := 56) ja_Conference_leastNext_54 rfl rfl ?_
      refine q_iconst (pc' := 57) ja_Conference_leastNext_56 rfl 1 (by decide) ?_
      refine q_iadd (pc' := 58) ja_Conference_leastNext_57 rfl ?_
      refine q_aald (pc' := 59) (v := .ref (126 + (x7 + 1).toNatClampNeg)) ja_Conference_leastNext_58 rfl (by decide) (kd := 15) (l := 11) rfl (by decide) (k3 h2 h4) (f_A125 (f_in (k3 h2 h4))) ?_
      refine q_iload (pc' := 61) ja_Conference_leastNext_59 rfl rfl ?_
      refine q_iconst (pc' := 62) ja_Conference_leastNext_61 rfl 1 (by decide) ?_
      refine q_iadd (pc' := 63) ja_Conference_leastNext_62 rfl ?_
      refine q_iald (pc' := 64) (v := .int (s (126 + (x7 + 1).toNatClampNeg) (y0 + 1).toNatClampNeg)) ja_Conference_leastNext_63 rfl (f_a_c (f_m125 (f_in (k3 h2 h4)))) (l := 11) (f_a_k (f_m125 (f_in (k3 h2 h4)))) (k4 h2 h4) (f_i (f_a_k (f_m125 (f_in (k3 h2 h4)))) rfl) ?_
      refine q_iload (pc' := 66) ja_Conference_leastNext_64 rfl rfl ?_
      refine q_ic_lt (pc' := 69) ja_Conference_leastNext_66 rfl ?_ ?_
      · intro h5
        refine q_iinc (pc' := 76) (ls' := [some (.ref 123), some (.ref x1), some (.ref x2), some (.int x3), some (.int x4), some (.int x5), some (.int x6), some (.int (x7 + 1)), some (.int x8), some (.int y0)]) ja_Conference_leastNext_73 rfl rfl (x7 + 1) rfl ⟨Nat.le_of_ble_eq_true rfl, rfl⟩ rfl ?_
        refine q_goto ja_Conference_leastNext_76 ?_
        exact (k5 h2 h4 h5)
      · intro h6
        refine q_iload (pc' := 71) ja_Conference_leastNext_69 rfl rfl ?_
        refine q_istore (pc' := 73) (ls' := [some (.ref 123), some (.ref x1), some (.ref x2), some (.int x3), some (.int x4), some (.int x5), some (.int x8), some (.int x7), some (.int x8), some (.int y0)]) ja_Conference_leastNext_71 rfl ⟨Nat.le_of_ble_eq_true rfl, rfl⟩ rfl ?_
        refine q_iinc (pc' := 76) (ls' := [some (.ref 123), some (.ref x1), some (.ref x2), some (.int x3), some (.int x4), some (.int x5), some (.int x8), some (.int (x7 + 1)), some (.int x8), some (.int y0)]) ja_Conference_leastNext_73 rfl rfl (x7 + 1) rfl ⟨Nat.le_of_ble_eq_true rfl, rfl⟩ rfl ?_
        refine q_goto ja_Conference_leastNext_76 ?_
        exact (k6 h2 h4 h6)
