set_option maxRecDepth 20000 in
theorem t_Conference_measure {G : jv_X} {d : Nat} {B : Option Value → jg_H → Prop} {s : jg_H} {c1 : Nat} (hc1 : f_8 c1) {c2 : Nat} (hc2 : f_8 c2)
    (k1 : q_W G d jm_Conference_measure B 5 [some (.ref 123), some (.ref c1), some (.ref c2), some (.int (s c1 0)), none] [] s) :
    q_P G (d + 1) 119 [.ref 123, .ref c1, .ref c2] s B := by
  refine q_in (M := jm_Conference_measure) rfl (Nat.le_of_ble_eq_true rfl) (ls := [some (.ref 123), some (.ref c1), some (.ref c2), none, none]) rfl ?_
  refine q_aload_n (pc' := 1) ja_Conference_measure_0 rfl rfl ?_
  refine q_getf (pc' := 4) (v := .int (s c1 0)) ja_Conference_measure_1 rfl (f_8_c hc1) ⟨by rw [f_8_k hc1], by decide⟩ (f_i (f_8_k hc1) rfl) ?_
  refine q_istore_n (pc' := 5) (ls' := [some (.ref 123), some (.ref c1), some (.ref c2), some (.int (s c1 0)), none]) ja_Conference_measure_4 rfl ⟨Nat.le_of_ble_eq_true rfl, rfl⟩ rfl ?_
  exact k1
set_option maxRecDepth 20000 in
theorem t_Conference_measure_5 {G : jv_X} {d : Nat} {B : Option Value → jg_H → Prop} {s : jg_H} {x1 : Nat} (hx1 : f_8 x1) {x2 : Nat} (hx2 : f_8 x2) (x3 : Int32) {o4 : Option Value} (ho4 : f_n o4 = true)
    (k1 : x3 < 0 → B none s)
    (k2 : ¬ x3 < 0 → q_W G d jm_Conference_measure B 15 [some (.ref 123), some (.ref x1), some (.ref x2), some (.int x3), some (.int (s x2 0))] [] s) :
    q_W G d jm_Conference_measure B 5 [some (.ref 123), some (.ref x1), some (.ref x2), some (.int x3), o4] [] s := by
  refine q_iload_n (pc' := 6) ja_Conference_measure_5 rfl rfl ?_
  refine q_if_lt (pc' := 9) ja_Conference_measure_6 rfl ?_ ?_
  · intro h1
    exact q_vret ja_Conference_measure_139 rfl (k1 h1)
  · intro h2
    refine q_aload_n (pc' := 10) ja_Conference_measure_9 rfl rfl ?_
    refine q_getf (pc' := 13) (v := .int (s x2 0)) ja_Conference_measure_10 rfl (f_8_c hx2) ⟨by rw [f_8_k hx2], by decide⟩ (f_i (f_8_k hx2) rfl) ?_
    refine q_istore (pc' := 15) (ls' := [some (.ref 123), some (.ref x1), some (.ref x2), some (.int x3), some (.int (s x2 0))]) ja_Conference_measure_13 rfl ⟨Nat.le_of_ble_eq_true rfl, rfl⟩ rfl ?_
    exact (k2 h2)
set_option maxRecDepth 20000 in
theorem t_Conference_measure_15 {G : jv_X} {d : Nat} {B : Option Value → jg_H → Prop} {s : jg_H} {x1 : Nat} (hx1 : f_8 x1) {x2 : Nat} (hx2 : f_8 x2) (x3 : Int32) (x4 : Int32)
    (k1 : x4 < 0 → q_W G d jm_Conference_measure B 5 [some (.ref 123), some (.ref x1), some (.ref x2), some (.int (x3 + (-1))), some (.int x4)] [] s)
    (k2 : ¬ x4 < 0 → x3 = (s x1 0) → jv_in x3 11 = true)
    (k3 : ¬ x4 < 0 → x3 = (s x1 0) → jv_in x4 11 = true)
    (k4 : ¬ x4 < 0 → x3 = (s x1 0) → ∀ s1 : jg_H, s1 = jg_up s (126 + x3.toNatClampNeg) x4.toNatClampNeg 0 → q_W G d jm_Conference_measure B 15 [some (.ref 123), some (.ref x1), some (.ref x2), some (.int x3), some (.int (x4 + (-1)))] [] s1)
    (k5 : ¬ x4 < 0 → ¬ x3 = (s x1 0) → ¬ x4 = (s x2 0) → jv_in x3 10 = true)
    (k6 : ¬ x4 < 0 → ¬ x3 = (s x1 0) → ¬ x4 = (s x2 0) → jv_in x4 10 = true)
    (k7 : ¬ x4 < 0 → ¬ x3 = (s x1 0) → ¬ x4 = (s x2 0) → ¬ (s (x1 + 1) x3.toNatClampNeg) = (s (x2 + 1) x4.toNatClampNeg) → jv_in x3 11 = true)
    (k8 : ¬ x4 < 0 → ¬ x3 = (s x1 0) → ¬ x4 = (s x2 0) → ¬ (s (x1 + 1) x3.toNatClampNeg) = (s (x2 + 1) x4.toNatClampNeg) → jv_in (x3 + 1) 11 = true)
    (k9 : ¬ x4 < 0 → ¬ x3 = (s x1 0) → ¬ x4 = (s x2 0) → ¬ (s (x1 + 1) x3.toNatClampNeg) = (s (x2 + 1) x4.toNatClampNeg) → jv_in x4 11 = true)
    (k10 : ¬ x4 < 0 → ¬ x3 = (s x1 0) → ¬ x4 = (s x2 0) → ¬ (s (x1 + 1) x3.toNatClampNeg) = (s (x2 + 1) x4.toNatClampNeg) → jv_in x3 11 = true)
    (k11 : ¬ x4 < 0 → ¬ x3 = (s x1 0) → ¬ x4 = (s x2 0) → ¬ (s (x1 + 1) x3.toNatClampNeg) = (s (x2 + 1) x4.toNatClampNeg) → jv_in (x4 + 1) 11 = true)
    (k12 : ¬ x4 < 0 → ¬ x3 = (s x1 0) → ¬ x4 = (s x2 0) → ¬ (s (x1 + 1) x3.toNatClampNeg) = (s (x2 + 1) x4.toNatClampNeg) → jv_in x4 11 = true)
    (k13 : ¬ x4 < 0 → ¬ x3 = (s x1 0) → ¬ x4 = (s x2 0) → ¬ (s (x1 + 1) x3.toNatClampNeg) = (s (x2 + 1) x4.toNatClampNeg) → ∀ s2 : jg_H, s2 = jg_up s (126 + x3.toNatClampNeg) x4.toNatClampNeg (if (s (126 + (x3 + 1).toNatClampNeg) x4.toNatClampNeg) < (s (126 + x3.toNatClampNeg) (x4 + 1).toNatClampNeg) then (s (126 + x3.toNatClampNeg) (x4 + 1).toNatClampNeg) else (s (126 + (x3 + 1).toNatClampNeg) x4.toNatClampNeg)) → q_W G d jm_Conference_measure B 15 [some (.ref 123), some (.ref x1), some (.ref x2), some (.int x3), some (.int (x4 + (-1)))] [] s2)
    (k14 : ¬ x4 < 0 → ¬ x3 = (s x1 0) → ¬ x4 = (s x2 0) → (s (x1 + 1) x3.toNatClampNeg) = (s (x2 + 1) x4.toNatClampNeg) → jv_in x3 11 = true)
    (k15 : ¬ x4 < 0 → ¬ x3 = (s x1 0) → ¬ x4 = (s x2 0) → (s (x1 + 1) x3.toNatClampNeg) = (s (x2 + 1) x4.toNatClampNeg) → jv_in (x3 + 1) 11 = true)
    (k16 : ¬ x4 < 0 → ¬ x3 = (s x1 0) → ¬ x4 = (s x2 0) → (s (x1 + 1) x3.toNatClampNeg) = (s (x2 + 1) x4.toNatClampNeg) → jv_in (x4 + 1) 11 = true)
    (k17 : ¬ x4 < 0 → ¬ x3 = (s x1 0) → ¬ x4 = (s x2 0) → (s (x1 + 1) x3.toNatClampNeg) = (s (x2 + 1) x4.toNatClampNeg) → jv_in x4 11 = true)
    (k18 : ¬ x4 < 0 → ¬ x3 = (s x1 0) → ¬ x4 = (s x2 0) → (s (x1 + 1) x3.toNatClampNeg) = (s (x2 + 1) x4.toNatClampNeg) → ∀ s3 : jg_H, s3 = jg_up s (126 + x3.toNatClampNeg) x4.toNatClampNeg ((s (126 + (x3 + 1).toNatClampNeg) (x4 + 1).toNatClampNeg) + 1) → q_W G d jm_Conference_measure B 15 [some (.ref 123), some (.ref x1), some (.ref x2), some (.int x3), some (.int (x4 + (-1)))] [] s3)
    (k19 : ¬ x4 < 0 → ¬ x3 = (s x1 0) → x4 = (s x2 0) → jv_in x3 11 = true)
    (k20 : ¬ x4 < 0 → ¬ x3 = (s x1 0) → x4 = (s x2 0) → jv_in x4 11 = true)
    (k21 : ¬ x4 < 0 → ¬ x3 = (s x1 0) → x4 = (s x2 0) → ∀ s4 : jg_H, s4 = jg_up s (126 + x3.toNatClampNeg) x4.toNatClampNeg 0 → q_W G d jm_Conference_measure B 15 [some (.ref 123), some (.ref x1), some (.ref x2), some (.int x3), some (.int (x4 + (-1)))] [] s4) :
    q_W G d jm_Conference_measure B 15 [some (.ref 123), some (.ref x1), some (.ref x2), some (.int x3), some (.int x4)] [] s := by
  refine q_iload (pc' := 17) ja_Conference_measure_15 rfl rfl ?_
  refine q_if_lt (pc' := 20) ja_Conference_measure_17 rfl ?_ ?_
  · intro h1
    refine q_iinc (pc' := 136) (ls' := [some (.ref 123), some (.ref x1), some (.ref x2), some (.int (x3 + (-1))), some (.int x4)]) ja_Conference_measure_133 rfl rfl (x3 + (-1)) rfl ⟨Nat.le_of_ble_eq_true rfl, rfl⟩ rfl ?_
    refine q_goto ja_Conference_measure_136 ?_
    exact (k1 h1)
  · intro h2
    refine q_iload_n (pc' := 21) ja_Conference_measure_20 rfl rfl ?_
    refine q_aload_n (pc' := 22) ja_Conference_measure_21 rfl rfl ?_
    refine q_getf (pc' := 25) (v := .int (s x1 0)) ja_Conference_measure_22 rfl (f_8_c hx1) ⟨by rw [f_8_k hx1], by decide⟩ (f_i (f_8_k hx1) rfl) ?_
    refine q_ic_eq (pc' := 28) ja_Conference_measure_25 rfl ?_ ?_
    · intro h3
      refine q_aload_n (pc' := 38) ja_Conference_measure_37 rfl rfl ?_
      refine q_getf (pc' := 41) (v := .ref 125) ja_Conference_measure_38 rfl (by decide) ⟨rfl, by decide⟩ rfl ?_
      refine q_iload_n (pc' := 42) ja_Conference_measure_41 rfl rfl ?_
      refine q_aald (pc' := 43) (v := .ref (126 + x3.toNatClampNeg)) ja_Conference_measure_42 rfl (by decide) (kd := 15) (l := 11) rfl (by decide) (k2 h2 h3) (f_A125 (f_in (k2 h2 h3))) ?_
      refine q_iload (pc' := 45) ja_Conference_measure_43 rfl rfl ?_
      refine q_iconst (pc' := 46) ja_Conference_measure_45 rfl 0 (by decide) ?_
      refine q_iast (pc' := 47) ja_Conference_measure_46 rfl (f_a_c (f_m125 (f_in (k2 h2 h3)))) (l := 11) (f_a_k (f_m125 (f_in (k2 h2 h3)))) (k3 h2 h3) ?_
      intro s1 e1
      refine q_goto ja_Conference_measure_47 ?_
      refine q_iinc (pc' := 130) (ls' := [some (.ref 123), some (.ref x1), some (.ref x2), some (.int x3), some (.int (x4 + (-1)))]) ja_Conference_measure_127 rfl rfl (x4 + (-1)) rfl ⟨Nat.le_of_ble_eq_true rfl, rfl⟩ rfl ?_
      refine q_goto ja_Conference_measure_130 ?_
      exact (k4 h2 h3 s1 e1)
    · intro h4
      refine q_iload (pc' := 30) ja_Conference_measure_28 rfl rfl ?_
      refine q_aload_n (pc' := 31) ja_Conference_measure_30 rfl rfl ?_
      refine q_getf (pc' := 34) (v := .int (s x2 0)) ja_Conference_measure_31 rfl (f_8_c hx2) ⟨by rw [f_8_k hx2], by decide⟩ (f_i (f_8_k hx2) rfl) ?_
      refine q_ic_ne (pc' := 37) ja_Conference_measure_34 rfl ?_ ?_
      · intro h5
        refine q_aload_n (pc' := 51) ja_Conference_measure_50 rfl rfl ?_
        refine q_getf (pc' := 54) (v := .ref (x1 + 1)) ja_Conference_measure_51 rfl (f_8_c hx1) ⟨by rw [f_8_k hx1], by decide⟩ (f_8_g1 hx1) ?_
        refine q_iload_n (pc' := 55) ja_Conference_measure_54 rfl rfl ?_
        refine q_iald (pc' := 56) (v := .int (s (x1 + 1) x3.toNatClampNeg)) ja_Conference_measure_55 rfl (f_a_c (f_8_s1 hx1)) (l := 10) (f_a_k (f_8_s1 hx1)) (k5 h2 h4 h5) (f_i (f_a_k (f_8_s1 hx1)) rfl) ?_
        refine q_aload_n (pc' := 57) ja_Conference_measure_56 rfl rfl ?_
        refine q_getf (pc' := 60) (v := .ref (x2 + 1)) ja_Conference_measure_57 rfl (f_8_c hx2) ⟨by rw [f_8_k hx2], by decide⟩ (f_8_g1 hx2) ?_
        refine q_iload (pc' := 62) ja_Conference_measure_60 rfl rfl ?_
        refine q_iald (pc' := 63) (v := .int (s (x2 + 1) x4.toNatClampNeg)) ja_Conference_measure_62 rfl (f_a_c (f_8_s1 hx2)) (l := 10) (f_a_k (f_8_s1 hx2)) (k6 h2 h4 h5) (f_i (f_a_k (f_8_s1 hx2)) rfl) ?_
        refine q_ic_ne (pc' := 66) ja_Conference_measure_63 rfl ?_ ?_
        · intro h6
          refine q_aload_n (pc' := 94) ja_Conference_measure_93 rfl rfl ?_
          refine q_getf (pc' := 97) (v := .ref 125) ja_Conference_measure_94 rfl (by decide) ⟨rfl, by decide⟩ rfl ?_
          refine q_iload_n (pc' := 98) ja_Conference_measure_97 rfl rfl ?_
          refine q_aald (pc' := 99) (v := .ref (126 + x3.toNatClampNeg)) ja_Conference_measure_98 rfl (by decide) (kd := 15) (l := 11) rfl (by decide) (k7 h2 h4 h5 h6) (f_A125 (f_in (k7 h2 h4 h5 h6))) ?_
          refine q_iload (pc' := 101) ja_Conference_measure_99 rfl rfl ?_
          refine q_aload_n (pc' := 102) ja_Conference_measure_101 rfl rfl ?_
          refine q_getf (pc' := 105) (v := .ref 125) ja_Conference_measure_102 rfl (by decide) ⟨rfl, by decide⟩ rfl ?_
          refine q_iload_n (pc' := 106) ja_Conference_measure_105 rfl rfl ?_
          refine q_iconst (pc' := 107) ja_Conference_measure_106 rfl 1 (by decide) ?_
          refine q_iadd (pc' := 108) ja_Conference_measure_107 rfl ?_
          refine q_aald (pc' := 109) (v := .ref (126 + (x3 + 1).toNatClampNeg)) ja_Conference_measure_108 rfl (by decide) (kd := 15) (l := 11) rfl (by decide) (k8 h2 h4 h5 h6) (f_A125 (f_in (k8 h2 h4 h5 h6))) ?_
          refine q_iload (pc' := 111) ja_Conference_measure_109 rfl rfl ?_
          refine q_iald (pc' := 112) (v := .int (s (126 + (x3 + 1).toNatClampNeg) x4.toNatClampNeg)) ja_Conference_measure_111 rfl (f_a_c (f_m125 (f_in (k8 h2 h4 h5 h6)))) (l := 11) (f_a_k (f_m125 (f_in (k8 h2 h4 h5 h6)))) (k9 h2 h4 h5 h6) (f_i (f_a_k (f_m125 (f_in (k8 h2 h4 h5 h6)))) rfl) ?_
          refine q_aload_n (pc' := 113) ja_Conference_measure_112 rfl rfl ?_
          refine q_getf (pc' := 116) (v := .ref 125) ja_Conference_measure_113 rfl (by decide) ⟨rfl, by decide⟩ rfl ?_
          refine q_iload_n (pc' := 117) ja_Conference_measure_116 rfl rfl ?_
          refine q_aald (pc' := 118) (v := .ref (126 + x3.toNatClampNeg)) ja_Conference_measure_117 rfl (by decide) (kd := 15) (l := 11) rfl (by decide) (k10 h2 h4 h5 h6) (f_A125 (f_in (k10 h2 h4 h5 h6))) ?_
          refine q_iload (pc' := 120) ja_Conference_measure_118 rfl rfl ?_
          refine q_iconst (pc' := 121) ja_Conference_measure_120 rfl 1 (by decide) ?_
          refine q_iadd (pc' := 122) ja_Conference_measure_121 rfl ?_
          refine q_iald (pc' := 123) (v := .int (s (126 + x3.toNatClampNeg) (x4 + 1).toNatClampNeg)) ja_Conference_measure_122 rfl (f_a_c (f_m125 (f_in (k10 h2 h4 h5 h6)))) (l := 11) (f_a_k (f_m125 (f_in (k10 h2 h4 h5 h6)))) (k11 h2 h4 h5 h6) (f_i (f_a_k (f_m125 (f_in (k10 h2 h4 h5 h6)))) rfl) ?_
          refine q_max (pc' := 126) ja_Conference_measure_123 rfl rfl rfl ?_
          refine q_iast (pc' := 127) ja_Conference_measure_126 rfl (f_a_c (f_m125 (f_in (k7 h2 h4 h5 h6)))) (l := 11) (f_a_k (f_m125 (f_in (k7 h2 h4 h5 h6)))) (k12 h2 h4 h5 h6) ?_
          intro s2 e2
          refine q_iinc (pc' := 130) (ls' := [some (.ref 123), some (.ref x1), some (.ref x2), some (.int x3), some (.int (x4 + (-1)))]) ja_Conference_measure_127 rfl rfl (x4 + (-1)) rfl ⟨Nat.le_of_ble_eq_true rfl, rfl⟩ rfl ?_
          refine q_goto ja_Conference_measure_130 ?_
          exact (k13 h2 h4 h5 h6 s2 e2)
        · intro h7
          refine q_aload_n (pc' := 67) ja_Conference_measure_66 rfl rfl ?_
          refine q_getf (pc' := 70) (v := .ref 125) ja_Conference_measure_67 rfl (by decide) ⟨rfl, by decide⟩ rfl ?_
          refine q_iload_n (pc' := 71) ja_Conference_measure_70 rfl rfl ?_
          refine q_aald (pc' := 72) (v := .ref (126 + x3.toNatClampNeg)) ja_Conference_measure_71 rfl (by decide) (kd := 15) (l := 11) rfl (by decide) (k14 h2 h4 h5 h7) (f_A125 (f_in (k14 h2 h4 h5 h7))) ?_
          refine q_iload (pc' := 74) ja_Conference_measure_72 rfl rfl ?_
          refine q_aload_n (pc' := 75) ja_Conference_measure_74 rfl rfl ?_
          refine q_getf (pc' := 78) (v := .ref 125) ja_Conference_measure_75 rfl (by decide) ⟨rfl, by decide⟩ rfl ?_
          refine q_iload_n (pc' := 79) ja_Conference_measure_78 rfl rfl ?_
          refine q_iconst (pc' := 80) ja_Conference_measure_79 rfl 1 (by decide) ?_
          refine q_iadd (pc' := 81) ja_Conference_measure_80 rfl ?_
          refine q_aald (pc' := 82) (v := .ref (126 + (x3 + 1).toNatClampNeg)) ja_Conference_measure_81 rfl (by decide) (kd := 15) (l := 11) rfl (by decide) (k15 h2 h4 h5 h7) (f_A125 (f_in (k15 h2 h4 h5 h7))) ?_
          refine q_iload (pc' := 84) ja_Conference_measure_82 rfl rfl ?_
          refine q_iconst (pc' := 85) ja_Conference_measure_84 rfl 1 (by decide) ?_
          refine q_iadd (pc' := 86) ja_Conference_measure_85 rfl ?_
          refine q_iald (pc' := 87) (v := .int (s (126 + (x3 + 1).toNatClampNeg) (x4 + 1).toNatClampNeg)) ja_Conference_measure_86 rfl (f_a_c (f_m125 (f_in (k15 h2 h4 h5 h7)))) (l := 11) (f_a_k (f_m125 (f_in (k15 h2 h4 h5 h7)))) (k16 h2 h4 h5 h7) (f_i (f_a_k (f_m125 (f_in (k15 h2 h4 h5 h7)))) rfl) ?_
          refine q_iconst (pc' := 88) ja_Conference_measure_87 rfl 1 (by decide) ?_
          refine q_iadd (pc' := 89) ja_Conference_measure_88 rfl ?_
          refine q_iast (pc' := 90) ja_Conference_measure_89 rfl (f_a_c (f_m125 (f_in (k14 h2 h4 h5 h7)))) (l := 11) (f_a_k (f_m125 (f_in (k14 h2 h4 h5 h7)))) (k17 h2 h4 h5 h7) ?_
          intro s3 e3
          refine q_goto ja_Conference_measure_90 ?_
          refine q_iinc (pc' := 130) (ls' := [some (.ref 123), some (.ref x1), some (.ref x2), some (.int x3), some (.int (x4 + (-1)))]) ja_Conference_measure_127 rfl rfl (x4 + (-1)) rfl ⟨Nat.le_of_ble_eq_true rfl, rfl⟩ rfl ?_
          refine q_goto ja_Conference_measure_130 ?_
          exact (k18 h2 h4 h5 h7 s3 e3)
      · intro h8
        refine q_aload_n (pc' := 38) ja_Conference_measure_37 rfl rfl ?_
        refine q_getf (pc' := 41) (v := .ref 125) ja_Conference_measure_38 rfl (by decide) ⟨rfl, by decide⟩ rfl ?_
        refine q_iload_n (pc' := 42) ja_Conference_measure_41 rfl rfl ?_
        refine q_aald (pc' := 43) (v := .ref (126 + x3.toNatClampNeg)) ja_Conference_measure_42 rfl (by decide) (kd := 15) (l := 11) rfl (by decide) (k19 h2 h4 h8) (f_A125 (f_in (k19 h2 h4 h8))) ?_
        refine q_iload (pc' := 45) ja_Conference_measure_43 rfl rfl ?_
        refine q_iconst (pc' := 46) ja_Conference_measure_45 rfl 0 (by decide) ?_
        refine q_iast (pc' := 47) ja_Conference_measure_46 rfl (f_a_c (f_m125 (f_in (k19 h2 h4 h8)))) (l := 11) (f_a_k (f_m125 (f_in (k19 h2 h4 h8)))) (k20 h2 h4 h8) ?_
        intro s4 e4
        refine q_goto ja_Conference_measure_47 ?_
        refine q_iinc (pc' := 130) (ls' := [some (.ref 123), some (.ref x1), some (.ref x2), some (.int x3), some (.int (x4 + (-1)))]) ja_Conference_measure_127 rfl rfl (x4 + (-1)) rfl ⟨Nat.le_of_ble_eq_true rfl, rfl⟩ rfl ?_
        refine q_goto ja_Conference_measure_130 ?_
        exact (k21 h2 h4 h8 s4 e4)
set_option maxRecDepth 20000 in
theorem t_Conference_placeFrom {G : jv_X} {d : Nat} {B : Option Value → jg_H → Prop} {s : jg_H} {c1 : Nat} (hc1 : f_8 c1) (a2 : Int32) (a3 : Int32)
    (k1 : q_W G (d + 1) jm_Conference_placeFrom B 2 [some (.ref c1), some (.int a2), some (.int a3), some (.int a2)] [] s) :
    q_P G (d + 2) 121 [.ref c1, .int a2, .int a3] s B := by
  refine q_in (M := jm_Conference_placeFrom) rfl (Nat.le_of_ble_eq_true rfl) (ls := [some (.ref c1), some (.int a2), some (.int a3), none]) rfl ?_
  refine q_iload_n (pc' := 1) ja_Conference_placeFrom_0 rfl rfl ?_
  refine q_istore_n (pc' := 2) (ls' := [some (.ref c1), some (.int a2), some (.int a3), some (.int a2)]) ja_Conference_placeFrom_1 rfl ⟨Nat.le_of_ble_eq_true rfl, rfl⟩ rfl ?_
  exact k1
set_option maxRecDepth 20000 in
theorem t_Conference_placeFrom_2 {G : jv_X} {d : Nat} {B : Option Value → jg_H → Prop} {s : jg_H} {x0 : Nat} (hx0 : f_8 x0) (x1 : Int32) (x2 : Int32) (x3 : Int32)
    (k1 : ¬ x3 < (s x0 0) → B (some (.int x3)) s)
    (k2 : x3 < (s x0 0) → x3 < 0 → (-1) = x2 → B (some (.int x3)) s)
    (k3 : x3 < (s x0 0) → x3 < 0 → ¬ (-1) = x2 → q_W G (d + 1) jm_Conference_placeFrom B 2 [some (.ref x0), some (.int x1), some (.int x2), some (.int (x3 + 1))] [] s)
    (k4 : x3 < (s x0 0) → ¬ x3 < 0 → ¬ x3 < 10 → (-1) = x2 → B (some (.int x3)) s)
    (k5 : x3 < (s x0 0) → ¬ x3 < 0 → ¬ x3 < 10 → ¬ (-1) = x2 → q_W G (d + 1) jm_Conference_placeFrom B 2 [some (.ref x0), some (.int x1), some (.int x2), some (.int (x3 + 1))] [] s)
    (k6 : x3 < (s x0 0) → ¬ x3 < 0 → x3 < 10 → (s (x0 + 1) x3.toNatClampNeg) = x2 → B (some (.int x3)) s)
    (k7 : x3 < (s x0 0) → ¬ x3 < 0 → x3 < 10 → ¬ (s (x0 + 1) x3.toNatClampNeg) = x2 → q_W G (d + 1) jm_Conference_placeFrom B 2 [some (.ref x0), some (.int x1), some (.int x2), some (.int (x3 + 1))] [] s) :
    q_W G (d + 1) jm_Conference_placeFrom B 2 [some (.ref x0), some (.int x1), some (.int x2), some (.int x3)] [] s := by
  refine q_iload_n (pc' := 3) ja_Conference_placeFrom_2 rfl rfl ?_
  refine q_aload_n (pc' := 4) ja_Conference_placeFrom_3 rfl rfl ?_
  refine q_getf (pc' := 7) (v := .int (s x0 0)) ja_Conference_placeFrom_4 rfl (f_8_c hx0) ⟨by rw [f_8_k hx0], by decide⟩ (f_i (f_8_k hx0) rfl) ?_
  refine q_ic_ge (pc' := 10) ja_Conference_placeFrom_7 rfl ?_ ?_
  · intro h1
    refine q_iload_n (pc' := 26) ja_Conference_placeFrom_25 rfl rfl ?_
    exact q_iret ja_Conference_placeFrom_26 rfl rfl (k1 h1)
  · intro h2
    refine q_aload_n (pc' := 11) ja_Conference_placeFrom_10 rfl rfl ?_
    refine q_iload_n (pc' := 12) ja_Conference_placeFrom_11 rfl rfl ?_
    refine q_virt (pc' := 15) (c := x0) (as := [.int x3]) (r := []) ja_Conference_placeFrom_12 rfl rfl rfl (f_8_c hx0) ⟨by rw [f_8_k hx0], by decide⟩ ?_
    refine q_in (M := jm_Sections_wordAt) rfl (Nat.le_of_ble_eq_true rfl) (ls := [some (.ref x0), some (.int x3)]) rfl ?_
    refine q_iload_n (pc' := 1) ja_Sections_wordAt_0 rfl rfl ?_
    refine q_if_lt (pc' := 4) ja_Sections_wordAt_1 rfl ?_ ?_
    · intro h3
      refine q_iconst (pc' := 31) ja_Sections_wordAt_30 rfl (-1) (by decide) ?_
      refine q_iret ja_Sections_wordAt_31 rfl rfl ?_
      show q_W _ _ _ _ 15 [some (.ref x0), some (.int x1), some (.int x2), some (.int x3)] [.int (-1)] s
      refine q_iload_n (pc' := 16) ja_Conference_placeFrom_15 rfl rfl ?_
      refine q_ic_eq (pc' := 19) ja_Conference_placeFrom_16 rfl ?_ ?_
      · intro h4
        refine q_iload_n (pc' := 26) ja_Conference_placeFrom_25 rfl rfl ?_
        exact q_iret ja_Conference_placeFrom_26 rfl rfl (k2 h2 h3 h4)
      · intro h5
        refine q_iinc (pc' := 22) (ls' := [some (.ref x0), some (.int x1), some (.int x2), some (.int (x3 + 1))]) ja_Conference_placeFrom_19 rfl rfl (x3 + 1) rfl ⟨Nat.le_of_ble_eq_true rfl, rfl⟩ rfl ?_
        refine q_goto ja_Conference_placeFrom_22 ?_
        exact (k3 h2 h3 h5)
    · intro h6
      refine q_iload_n (pc' := 5) ja_Sections_wordAt_4 rfl rfl ?_
      refine q_aload_n (pc' := 6) ja_Sections_wordAt_5 rfl rfl ?_
      refine q_getf (pc' := 9) (v := .int (s x0 0)) ja_Sections_wordAt_6 rfl (f_8_c hx0) ⟨by rw [f_8_k hx0], by decide⟩ (f_i (f_8_k hx0) rfl) ?_
      refine q_ic_ge (pc' := 12) ja_Sections_wordAt_9 rfl (fun h => absurd (h2) h) (fun _ => ?_)
      refine q_iload_n (pc' := 13) ja_Sections_wordAt_12 rfl rfl ?_
      refine q_aload_n (pc' := 14) ja_Sections_wordAt_13 rfl rfl ?_
      refine q_getf (pc' := 17) (v := .ref (x0 + 1)) ja_Sections_wordAt_14 rfl (f_8_c hx0) ⟨by rw [f_8_k hx0], by decide⟩ (f_8_g1 hx0) ?_
      refine q_alen (pc' := 18) ja_Sections_wordAt_17 rfl (f_a_c (f_8_s1 hx0)) (kd := 13) (l := 10) (f_a_k (f_8_s1 hx0)) (by decide) (v := 10) (by decide) ?_
      refine q_ic_ge (pc' := 21) ja_Sections_wordAt_18 rfl ?_ ?_
      · intro h7
        refine q_iconst (pc' := 31) ja_Sections_wordAt_30 rfl (-1) (by decide) ?_
        refine q_iret ja_Sections_wordAt_31 rfl rfl ?_
        show q_W _ _ _ _ 15 [some (.ref x0), some (.int x1), some (.int x2), some (.int x3)] [.int (-1)] s
        refine q_iload_n (pc' := 16) ja_Conference_placeFrom_15 rfl rfl ?_
        refine q_ic_eq (pc' := 19) ja_Conference_placeFrom_16 rfl ?_ ?_
        · intro h8
          refine q_iload_n (pc' := 26) ja_Conference_placeFrom_25 rfl rfl ?_
          exact q_iret ja_Conference_placeFrom_26 rfl rfl (k4 h2 h6 h7 h8)
        · intro h9
          refine q_iinc (pc' := 22) (ls' := [some (.ref x0), some (.int x1), some (.int x2), some (.int (x3 + 1))]) ja_Conference_placeFrom_19 rfl rfl (x3 + 1) rfl ⟨Nat.le_of_ble_eq_true rfl, rfl⟩ rfl ?_
          refine q_goto ja_Conference_placeFrom_22 ?_
          exact (k5 h2 h6 h7 h9)
      · intro h10
        refine q_aload_n (pc' := 22) ja_Sections_wordAt_21 rfl rfl ?_
        refine q_getf (pc' := 25) (v := .ref (x0 + 1)) ja_Sections_wordAt_22 rfl (f_8_c hx0) ⟨by rw [f_8_k hx0], by decide⟩ (f_8_g1 hx0) ?_
        refine q_iload_n (pc' := 26) ja_Sections_wordAt_25 rfl rfl ?_
        refine q_iald (pc' := 27) (v := .int (s (x0 + 1) x3.toNatClampNeg)) ja_Sections_wordAt_26 rfl (f_a_c (f_8_s1 hx0)) (l := 10) (f_a_k (f_8_s1 hx0)) (q_inr (l := 10) (by decide) h6 h10) (f_i (f_a_k (f_8_s1 hx0)) rfl) ?_
        refine q_goto ja_Sections_wordAt_27 ?_
        refine q_iret ja_Sections_wordAt_31 rfl rfl ?_
        show q_W _ _ _ _ 15 [some (.ref x0), some (.int x1), some (.int x2), some (.int x3)] [.int (s (x0 + 1) x3.toNatClampNeg)] s
        refine q_iload_n (pc' := 16) ja_Conference_placeFrom_15 rfl rfl ?_
        refine q_ic_eq (pc' := 19) ja_Conference_placeFrom_16 rfl ?_ ?_
        · intro h11
          refine q_iload_n (pc' := 26) ja_Conference_placeFrom_25 rfl rfl ?_
          exact q_iret ja_Conference_placeFrom_26 rfl rfl (k6 h2 h6 h10 h11)
        · intro h12
          refine q_iinc (pc' := 22) (ls' := [some (.ref x0), some (.int x1), some (.int x2), some (.int (x3 + 1))]) ja_Conference_placeFrom_19 rfl rfl (x3 + 1) rfl ⟨Nat.le_of_ble_eq_true rfl, rfl⟩ rfl ?_
          refine q_goto ja_Conference_placeFrom_22 ?_
          exact (k7 h2 h6 h10 h12)
set_option maxRecDepth 20000 in
theorem t_Foresight_begin {G : jv_X} {d : Nat} {B : Option Value → jg_H → Prop} {s : jg_H} {c1 : Nat} (hc1 : f_8 c1)
    (k1 : ∀ s1 : jg_H, s1 = jg_up s 65 4 (-1) → q_P G d 110 [.ref 80, .ref c1] s1 (fun v t => q_W G d jm_Foresight_begin B 15 [some (.ref 65), some (.ref c1), none] (v.toList ++ []) t)) :
    q_P G (d + 1) 109 [.ref 65, .ref c1] s B := by
  refine q_in (M := jm_Foresight_begin) rfl (Nat.le_of_ble_eq_true rfl) (ls := [some (.ref 65), some (.ref c1), none]) rfl ?_
  refine q_aload_n (pc' := 1) ja_Foresight_begin_0 rfl rfl ?_
  refine q_iconst (pc' := 2) ja_Foresight_begin_1 rfl (-1) (by decide) ?_
  refine q_putf (pc' := 5) ja_Foresight_begin_2 rfl (by decide) rfl rfl rfl ?_
  intro s1 e1
  refine q_aload_n (pc' := 6) ja_Foresight_begin_5 rfl rfl ?_
  refine q_getf (pc' := 9) (v := .ref 71) ja_Foresight_begin_6 rfl (by decide) ⟨rfl, by decide⟩ rfl ?_
  refine q_iconst (pc' := 10) ja_Foresight_begin_9 rfl 0 (by decide) ?_
  refine q_aald (pc' := 11) (v := .ref 80) ja_Foresight_begin_10 rfl (by decide) (kd := 18) (l := 6) rfl (by decide) (by decide) rfl ?_
  refine q_aload_n (pc' := 12) ja_Foresight_begin_11 rfl rfl ?_
  refine q_virt (pc' := 15) (c := 80) (as := [.ref c1]) (r := []) ja_Foresight_begin_12 rfl rfl rfl (by decide) ⟨rfl, by decide⟩ ?_
  exact (k1 s1 e1)
set_option maxRecDepth 20000 in
theorem t_Foresight_begin_15 {G : jv_X} {d : Nat} {B : Option Value → jg_H → Prop} {s : jg_H} {x1 : Nat} (hx1 : f_8 x1)
    (k1 : q_W G d jm_Foresight_begin B 17 [some (.ref 65), some (.ref x1), some (.int 0)] [] s) :
    q_W G d jm_Foresight_begin B 15 [some (.ref 65), some (.ref x1), none] [] s := by
  refine q_iconst (pc' := 16) ja_Foresight_begin_15 rfl 0 (by decide) ?_
  refine q_istore_n (pc' := 17) (ls' := [some (.ref 65), some (.ref x1), some (.int 0)]) ja_Foresight_begin_16 rfl ⟨Nat.le_of_ble_eq_true rfl, rfl⟩ rfl ?_
  exact k1
set_option maxRecDepth 20000 in
theorem t_Foresight_begin_17 {G : jv_X} {d : Nat} {B : Option Value → jg_H → Prop} {s : jg_H} {x1 : Nat} (hx1 : f_8 x1) (x2 : Int32)
    (k1 : ¬ x2 < (s 66 0) → B none s)
    (k2 : x2 < (s 66 0) → ¬ x2 < 5 → B none s)
    (k3 : x2 < (s 66 0) → x2 < 5 → jv_in x2 5 = true)
    (k4 : x2 < (s 66 0) → x2 < 5 → jv_in x2 5 = true)
    (k5 : x2 < (s 66 0) → x2 < 5 → ∀ s1 : jg_H, s1 = jg_up s 73 x2.toNatClampNeg (s 69 x2.toNatClampNeg) → q_W G d jm_Foresight_begin B 17 [some (.ref 65), some (.ref x1), some (.int (x2 + 1))] [] s1) :
    q_W G d jm_Foresight_begin B 17 [some (.ref 65), some (.ref x1), some (.int x2)] [] s := by
  refine q_iload_n (pc' := 18) ja_Foresight_begin_17 rfl rfl ?_
  refine q_aload_n (pc' := 19) ja_Foresight_begin_18 rfl rfl ?_
  refine q_getf (pc' := 22) (v := .ref 66) ja_Foresight_begin_19 rfl (by decide) ⟨rfl, by decide⟩ rfl ?_
  refine q_getf (pc' := 25) (v := .int (s 66 0)) ja_Foresight_begin_22 rfl (by decide) ⟨rfl, by decide⟩ rfl ?_
  refine q_ic_ge (pc' := 28) ja_Foresight_begin_25 rfl ?_ ?_
  · intro h1
    exact q_vret ja_Foresight_begin_56 rfl (k1 h1)
  · intro h2
    refine q_iload_n (pc' := 29) ja_Foresight_begin_28 rfl rfl ?_
    refine q_iconst (pc' := 30) ja_Foresight_begin_29 rfl 5 (by decide) ?_
    refine q_ic_ge (pc' := 33) ja_Foresight_begin_30 rfl ?_ ?_
    · intro h3
      exact q_vret ja_Foresight_begin_56 rfl (k2 h2 h3)
    · intro h4
      refine q_aload_n (pc' := 34) ja_Foresight_begin_33 rfl rfl ?_
      refine q_getf (pc' := 37) (v := .ref 72) ja_Foresight_begin_34 rfl (by decide) ⟨rfl, by decide⟩ rfl ?_
      refine q_iconst (pc' := 38) ja_Foresight_begin_37 rfl 0 (by decide) ?_
      refine q_aald (pc' := 39) (v := .ref 73) ja_Foresight_begin_38 rfl (by decide) (kd := 15) (l := 6) rfl (by decide) (by decide) rfl ?_
      refine q_iload_n (pc' := 40) ja_Foresight_begin_39 rfl rfl ?_
      refine q_aload_n (pc' := 41) ja_Foresight_begin_40 rfl rfl ?_
      refine q_getf (pc' := 44) (v := .ref 66) ja_Foresight_begin_41 rfl (by decide) ⟨rfl, by decide⟩ rfl ?_
      refine q_getf (pc' := 47) (v := .ref 69) ja_Foresight_begin_44 rfl (by decide) ⟨rfl, by decide⟩ rfl ?_
      refine q_iload_n (pc' := 48) ja_Foresight_begin_47 rfl rfl ?_
      refine q_iald (pc' := 49) (v := .int (s 69 x2.toNatClampNeg)) ja_Foresight_begin_48 rfl (by decide) (l := 5) rfl (k3 h2 h4) rfl ?_
      refine q_iast (pc' := 50) ja_Foresight_begin_49 rfl (by decide) (l := 5) rfl (k4 h2 h4) ?_
      intro s1 e1
      refine q_iinc (pc' := 53) (ls' := [some (.ref 65), some (.ref x1), some (.int (x2 + 1))]) ja_Foresight_begin_50 rfl rfl (x2 + 1) rfl ⟨Nat.le_of_ble_eq_true rfl, rfl⟩ rfl ?_
      refine q_goto ja_Foresight_begin_53 ?_
      exact (k5 h2 h4 s1 e1)
set_option maxRecDepth 20000 in
theorem t_Foresight_goesOn {G : jv_X} {d : Nat} {B : Option Value → jg_H → Prop} {s : jg_H} (a1 : Int32)
    (k1 : a1 < 0 → B (some (.int 0)) s)
    (k2 : ¬ a1 < 0 → a1 < 5 → jv_in (a1 + 1) 6 = true)
    (k3 : ¬ a1 < 0 → a1 < 5 → jv_in a1 6 = true)
    (k4 : ¬ a1 < 0 → a1 < 5 → q_P G d 110 [.ref (80 + 2 * (a1 + 1).toNatClampNeg), .ref (80 + 2 * a1.toNatClampNeg)] s (fun v t => q_W G d jm_Foresight_goesOn B 28 [some (.ref 65), some (.int a1), none] (v.toList ++ []) t))
    (k5 : ¬ a1 < 0 → ¬ a1 < 5 → B (some (.int 0)) s) :
    q_P G (d + 1) 112 [.ref 65, .int a1] s B := by
  refine q_in (M := jm_Foresight_goesOn) rfl (Nat.le_of_ble_eq_true rfl) (ls := [some (.ref 65), some (.int a1), none]) rfl ?_
  refine q_iload_n (pc' := 1) ja_Foresight_goesOn_0 rfl rfl ?_
  refine q_if_lt (pc' := 4) ja_Foresight_goesOn_1 rfl ?_ ?_
  · intro h1
    refine q_iconst (pc' := 10) ja_Foresight_goesOn_9 rfl 0 (by decide) ?_
    exact q_iret ja_Foresight_goesOn_10 rfl (by decide) (k1 h1)
  · intro h2
    refine q_iload_n (pc' := 5) ja_Foresight_goesOn_4 rfl rfl ?_
    refine q_iconst (pc' := 6) ja_Foresight_goesOn_5 rfl 5 (by decide) ?_
    refine q_ic_lt (pc' := 9) ja_Foresight_goesOn_6 rfl ?_ ?_
    · intro h3
      refine q_aload_n (pc' := 12) ja_Foresight_goesOn_11 rfl rfl ?_
      refine q_getf (pc' := 15) (v := .ref 71) ja_Foresight_goesOn_12 rfl (by decide) ⟨rfl, by decide⟩ rfl ?_
      refine q_iload_n (pc' := 16) ja_Foresight_goesOn_15 rfl rfl ?_
      refine q_iconst (pc' := 17) ja_Foresight_goesOn_16 rfl 1 (by decide) ?_
      refine q_iadd (pc' := 18) ja_Foresight_goesOn_17 rfl ?_
      refine q_aald (pc' := 19) (v := .ref (80 + 2 * (a1 + 1).toNatClampNeg)) ja_Foresight_goesOn_18 rfl (by decide) (kd := 18) (l := 6) rfl (by decide) (k2 h2 h3) (f_A71 (f_in (k2 h2 h3))) ?_
      refine q_aload_n (pc' := 20) ja_Foresight_goesOn_19 rfl rfl ?_
      refine q_getf (pc' := 23) (v := .ref 71) ja_Foresight_goesOn_20 rfl (by decide) ⟨rfl, by decide⟩ rfl ?_
      refine q_iload_n (pc' := 24) ja_Foresight_goesOn_23 rfl rfl ?_
      refine q_aald (pc' := 25) (v := .ref (80 + 2 * a1.toNatClampNeg)) ja_Foresight_goesOn_24 rfl (by decide) (kd := 18) (l := 6) rfl (by decide) (k3 h2 h3) (f_A71 (f_in (k3 h2 h3))) ?_
      refine q_virt (pc' := 28) (c := (80 + 2 * (a1 + 1).toNatClampNeg)) (as := [.ref (80 + 2 * a1.toNatClampNeg)]) (r := []) ja_Foresight_goesOn_25 rfl rfl rfl (f_8_c (f_m71 (f_in (k2 h2 h3)))) ⟨by rw [f_8_k (f_m71 (f_in (k2 h2 h3)))], by decide⟩ ?_
      exact (k4 h2 h3)
    · intro h4
      refine q_iconst (pc' := 10) ja_Foresight_goesOn_9 rfl 0 (by decide) ?_
      exact q_iret ja_Foresight_goesOn_10 rfl (by decide) (k5 h2 h4)
set_option maxRecDepth 20000 in
theorem t_Foresight_goesOn_28 {G : jv_X} {d : Nat} {B : Option Value → jg_H → Prop} {s : jg_H} (x1 : Int32)
    (k1 : q_W G d jm_Foresight_goesOn B 30 [some (.ref 65), some (.int x1), some (.int 0)] [] s) :
    q_W G d jm_Foresight_goesOn B 28 [some (.ref 65), some (.int x1), none] [] s := by
  refine q_iconst (pc' := 29) ja_Foresight_goesOn_28 rfl 0 (by decide) ?_
  refine q_istore_n (pc' := 30) (ls' := [some (.ref 65), some (.int x1), some (.int 0)]) ja_Foresight_goesOn_29 rfl ⟨Nat.le_of_ble_eq_true rfl, rfl⟩ rfl ?_
  exact k1
set_option maxRecDepth 20000 in
theorem t_Foresight_goesOn_30 {G : jv_X} {d : Nat} {B : Option Value → jg_H → Prop} {s : jg_H} (x1 : Int32) (x2 : Int32)
    (k1 : ¬ x2 < (s 66 0) → B (some (.int 1)) s)
    (k2 : x2 < (s 66 0) → ¬ x2 < 5 → B (some (.int 1)) s)
    (k3 : x2 < (s 66 0) → x2 < 5 → jv_in (x1 + 1) 6 = true)
    (k4 : x2 < (s 66 0) → x2 < 5 → jv_in x1 6 = true)
    (k5 : x2 < (s 66 0) → x2 < 5 → jv_in x2 5 = true)
    (k6 : x2 < (s 66 0) → x2 < 5 → jv_in x2 5 = true)
    (k7 : x2 < (s 66 0) → x2 < 5 → ∀ s1 : jg_H, s1 = jg_up s (73 + (x1 + 1).toNatClampNeg) x2.toNatClampNeg (s (73 + x1.toNatClampNeg) x2.toNatClampNeg) → q_W G d jm_Foresight_goesOn B 30 [some (.ref 65), some (.int x1), some (.int (x2 + 1))] [] s1) :
    q_W G d jm_Foresight_goesOn B 30 [some (.ref 65), some (.int x1), some (.int x2)] [] s := by
  refine q_iload_n (pc' := 31) ja_Foresight_goesOn_30 rfl rfl ?_
  refine q_aload_n (pc' := 32) ja_Foresight_goesOn_31 rfl rfl ?_
  refine q_getf (pc' := 35) (v := .ref 66) ja_Foresight_goesOn_32 rfl (by decide) ⟨rfl, by decide⟩ rfl ?_
  refine q_getf (pc' := 38) (v := .int (s 66 0)) ja_Foresight_goesOn_35 rfl (by decide) ⟨rfl, by decide⟩ rfl ?_
  refine q_ic_ge (pc' := 41) ja_Foresight_goesOn_38 rfl ?_ ?_
  · intro h1
    refine q_iconst (pc' := 71) ja_Foresight_goesOn_70 rfl 1 (by decide) ?_
    exact q_iret ja_Foresight_goesOn_71 rfl (by decide) (k1 h1)
  · intro h2
    refine q_iload_n (pc' := 42) ja_Foresight_goesOn_41 rfl rfl ?_
    refine q_iconst (pc' := 43) ja_Foresight_goesOn_42 rfl 5 (by decide) ?_
    refine q_ic_ge (pc' := 46) ja_Foresight_goesOn_43 rfl ?_ ?_
    · intro h3
      refine q_iconst (pc' := 71) ja_Foresight_goesOn_70 rfl 1 (by decide) ?_
      exact q_iret ja_Foresight_goesOn_71 rfl (by decide) (k2 h2 h3)
    · intro h4
      refine q_aload_n (pc' := 47) ja_Foresight_goesOn_46 rfl rfl ?_
      refine q_getf (pc' := 50) (v := .ref 72) ja_Foresight_goesOn_47 rfl (by decide) ⟨rfl, by decide⟩ rfl ?_
      refine q_iload_n (pc' := 51) ja_Foresight_goesOn_50 rfl rfl ?_
      refine q_iconst (pc' := 52) ja_Foresight_goesOn_51 rfl 1 (by decide) ?_
      refine q_iadd (pc' := 53) ja_Foresight_goesOn_52 rfl ?_
      refine q_aald (pc' := 54) (v := .ref (73 + (x1 + 1).toNatClampNeg)) ja_Foresight_goesOn_53 rfl (by decide) (kd := 15) (l := 6) rfl (by decide) (k3 h2 h4) (f_A72 (f_in (k3 h2 h4))) ?_
      refine q_iload_n (pc' := 55) ja_Foresight_goesOn_54 rfl rfl ?_
      refine q_aload_n (pc' := 56) ja_Foresight_goesOn_55 rfl rfl ?_
      refine q_getf (pc' := 59) (v := .ref 72) ja_Foresight_goesOn_56 rfl (by decide) ⟨rfl, by decide⟩ rfl ?_
      refine q_iload_n (pc' := 60) ja_Foresight_goesOn_59 rfl rfl ?_
      refine q_aald (pc' := 61) (v := .ref (73 + x1.toNatClampNeg)) ja_Foresight_goesOn_60 rfl (by decide) (kd := 15) (l := 6) rfl (by decide) (k4 h2 h4) (f_A72 (f_in (k4 h2 h4))) ?_
      refine q_iload_n (pc' := 62) ja_Foresight_goesOn_61 rfl rfl ?_
      refine q_iald (pc' := 63) (v := .int (s (73 + x1.toNatClampNeg) x2.toNatClampNeg)) ja_Foresight_goesOn_62 rfl (f_a_c (f_m72 (f_in (k4 h2 h4)))) (l := 5) (f_a_k (f_m72 (f_in (k4 h2 h4)))) (k5 h2 h4) (f_i (f_a_k (f_m72 (f_in (k4 h2 h4)))) rfl) ?_
      refine q_iast (pc' := 64) ja_Foresight_goesOn_63 rfl (f_a_c (f_m72 (f_in (k3 h2 h4)))) (l := 5) (f_a_k (f_m72 (f_in (k3 h2 h4)))) (k6 h2 h4) ?_
      intro s1 e1
      refine q_iinc (pc' := 67) (ls' := [some (.ref 65), some (.int x1), some (.int (x2 + 1))]) ja_Foresight_goesOn_64 rfl rfl (x2 + 1) rfl ⟨Nat.le_of_ble_eq_true rfl, rfl⟩ rfl ?_
      refine q_goto ja_Foresight_goesOn_67 ?_
      exact (k7 h2 h4 s1 e1)
set_option maxRecDepth 20000 in
theorem t_Foresight_namesEachOnce {G : jv_X} {d : Nat} {B : Option Value → jg_H → Prop} {s : jg_H} (a1 : Int32)
    (k1 : q_W G (d + 1) jm_Foresight_namesEachOnce B 7 [some (.ref 65), some (.int a1), some (.int a1), some (.int 0), some (.int 0), none] [] s) :
    q_P G (d + 2) 108 [.ref 65, .int a1] s B := by
  refine q_in (M := jm_Foresight_namesEachOnce) rfl (Nat.le_of_ble_eq_true rfl) (ls := [some (.ref 65), some (.int a1), none, none, none, none]) rfl ?_
  refine q_iload_n (pc' := 1) ja_Foresight_namesEachOnce_0 rfl rfl ?_
  refine q_istore_n (pc' := 2) (ls' := [some (.ref 65), some (.int a1), some (.int a1), none, none, none]) ja_Foresight_namesEachOnce_1 rfl ⟨Nat.le_of_ble_eq_true rfl, rfl⟩ rfl ?_
  refine q_iconst (pc' := 3) ja_Foresight_namesEachOnce_2 rfl 0 (by decide) ?_
  refine q_istore_n (pc' := 4) (ls' := [some (.ref 65), some (.int a1), some (.int a1), some (.int 0), none, none]) ja_Foresight_namesEachOnce_3 rfl ⟨Nat.le_of_ble_eq_true rfl, rfl⟩ rfl ?_
  refine q_iconst (pc' := 5) ja_Foresight_namesEachOnce_4 rfl 0 (by decide) ?_
  refine q_istore (pc' := 7) (ls' := [some (.ref 65), some (.int a1), some (.int a1), some (.int 0), some (.int 0), none]) ja_Foresight_namesEachOnce_5 rfl ⟨Nat.le_of_ble_eq_true rfl, rfl⟩ rfl ?_
  exact k1
set_option maxRecDepth 20000 in
theorem t_Foresight_namesEachOnce_7 {G : jv_X} {d : Nat} {B : Option Value → jg_H → Prop} {s : jg_H} (x1 : Int32) (x2 : Int32) (x3 : Int32) (x4 : Int32) {o5 : Option Value} (ho5 : f_n o5 = true)
    (k1 : ¬ x4 < (s 66 0) → ¬ x2 = 0 → B (some (.int 0)) s)
    (k2 : ¬ x4 < (s 66 0) → x2 = 0 → B (some (.int 1)) s)
    (k3 : x4 < (s 66 0) → (x2 - x2 / 6 * 6) < 0 → B (some (.int 0)) s)
    (k4 : x4 < (s 66 0) → ¬ (x2 - x2 / 6 * 6) < 0 → ¬ (x2 - x2 / 6 * 6) < (s 66 0) → B (some (.int 0)) s)
    (k5 : x4 < (s 66 0) → ¬ (x2 - x2 / 6 * 6) < 0 → (x2 - x2 / 6 * 6) < (s 66 0) → ¬ (x2 - x2 / 6 * 6) < (s 66 1) → B (some (.int 0)) s)
    (k6 : x4 < (s 66 0) → ¬ (x2 - x2 / 6 * 6) < 0 → (x2 - x2 / 6 * 6) < (s 66 0) → (x2 - x2 / 6 * 6) < (s 66 1) → ((x3 >>> ((x2 - x2 / 6 * 6) &&& 31)) &&& 1) = 0 → q_W G (d + 1) jm_Foresight_namesEachOnce B 7 [some (.ref 65), some (.int x1), some (.int (x2 / 6)), some (.int (x3 ||| (1 <<< ((x2 - x2 / 6 * 6) &&& 31)))), some (.int (x4 + 1)), some (.int (x2 - x2 / 6 * 6))] [] s)
    (k7 : x4 < (s 66 0) → ¬ (x2 - x2 / 6 * 6) < 0 → (x2 - x2 / 6 * 6) < (s 66 0) → (x2 - x2 / 6 * 6) < (s 66 1) → ¬ ((x3 >>> ((x2 - x2 / 6 * 6) &&& 31)) &&& 1) = 0 → B (some (.int 0)) s) :
    q_W G (d + 1) jm_Foresight_namesEachOnce B 7 [some (.ref 65), some (.int x1), some (.int x2), some (.int x3), some (.int x4), o5] [] s := by
  refine q_iload (pc' := 9) ja_Foresight_namesEachOnce_7 rfl rfl ?_
  refine q_aload_n (pc' := 10) ja_Foresight_namesEachOnce_9 rfl rfl ?_
  refine q_getf (pc' := 13) (v := .ref 66) ja_Foresight_namesEachOnce_10 rfl (by decide) ⟨rfl, by decide⟩ rfl ?_
  refine q_getf (pc' := 16) (v := .int (s 66 0)) ja_Foresight_namesEachOnce_13 rfl (by decide) ⟨rfl, by decide⟩ rfl ?_
  refine q_ic_ge (pc' := 19) ja_Foresight_namesEachOnce_16 rfl ?_ ?_
  · intro h1
    refine q_iload_n (pc' := 67) ja_Foresight_namesEachOnce_66 rfl rfl ?_
    refine q_if_ne (pc' := 70) ja_Foresight_namesEachOnce_67 rfl ?_ ?_
    · intro h2
      refine q_iconst (pc' := 75) ja_Foresight_namesEachOnce_74 rfl 0 (by decide) ?_
      exact q_iret ja_Foresight_namesEachOnce_75 rfl (by decide) (k1 h1 h2)
    · intro h3
      refine q_iconst (pc' := 71) ja_Foresight_namesEachOnce_70 rfl 1 (by decide) ?_
      refine q_goto ja_Foresight_namesEachOnce_71 ?_
      exact q_iret ja_Foresight_namesEachOnce_75 rfl (by decide) (k2 h1 h3)
  · intro h4
    refine q_iload_n (pc' := 20) ja_Foresight_namesEachOnce_19 rfl rfl ?_
    refine q_bipush (pc' := 22) ja_Foresight_namesEachOnce_20 rfl 6 (by decide) ?_
    refine q_irem (pc' := 23) ja_Foresight_namesEachOnce_22 rfl (by decide) ?_
    refine q_istore (pc' := 25) (ls' := [some (.ref 65), some (.int x1), some (.int x2), some (.int x3), some (.int x4), some (.int (x2 - x2 / 6 * 6))]) ja_Foresight_namesEachOnce_23 rfl ⟨Nat.le_of_ble_eq_true rfl, rfl⟩ rfl ?_
    refine q_aload_n (pc' := 26) ja_Foresight_namesEachOnce_25 rfl rfl ?_
    refine q_getf (pc' := 29) (v := .ref 66) ja_Foresight_namesEachOnce_26 rfl (by decide) ⟨rfl, by decide⟩ rfl ?_
    refine q_iload (pc' := 31) ja_Foresight_namesEachOnce_29 rfl rfl ?_
    refine q_virt (pc' := 34) (c := 66) (as := [.int (x2 - x2 / 6 * 6)]) (r := []) ja_Foresight_namesEachOnce_31 rfl rfl rfl (by decide) ⟨rfl, by decide⟩ ?_
    refine q_in (M := jm_Motions_has) rfl (Nat.le_of_ble_eq_true rfl) (ls := [some (.ref 66), some (.int (x2 - x2 / 6 * 6))]) rfl ?_
    refine q_iload_n (pc' := 1) ja_Motions_has_0 rfl rfl ?_
    refine q_if_lt (pc' := 4) ja_Motions_has_1 rfl ?_ ?_
    · intro h5
      refine q_iconst (pc' := 25) ja_Motions_has_24 rfl 0 (by decide) ?_
      refine q_iret ja_Motions_has_25 rfl (by decide) ?_
      show q_W _ _ _ _ 34 [some (.ref 65), some (.int x1), some (.int x2), some (.int x3), some (.int x4), some (.int (x2 - x2 / 6 * 6))] [.int 0] s
      refine q_if_eq (pc' := 37) ja_Foresight_namesEachOnce_34 rfl (fun _ => ?_) (fun h => absurd ((by decide : (0 : Int32) = 0)) h)
      refine q_iconst (pc' := 47) ja_Foresight_namesEachOnce_46 rfl 0 (by decide) ?_
      exact q_iret ja_Foresight_namesEachOnce_47 rfl (by decide) (k3 h4 h5)
    · intro h6
      refine q_iload_n (pc' := 5) ja_Motions_has_4 rfl rfl ?_
      refine q_aload_n (pc' := 6) ja_Motions_has_5 rfl rfl ?_
      refine q_getf (pc' := 9) (v := .int (s 66 0)) ja_Motions_has_6 rfl (by decide) ⟨rfl, by decide⟩ rfl ?_
      refine q_ic_ge (pc' := 12) ja_Motions_has_9 rfl ?_ ?_
      · intro h7
        refine q_iconst (pc' := 25) ja_Motions_has_24 rfl 0 (by decide) ?_
        refine q_iret ja_Motions_has_25 rfl (by decide) ?_
        show q_W _ _ _ _ 34 [some (.ref 65), some (.int x1), some (.int x2), some (.int x3), some (.int x4), some (.int (x2 - x2 / 6 * 6))] [.int 0] s
        refine q_if_eq (pc' := 37) ja_Foresight_namesEachOnce_34 rfl (fun _ => ?_) (fun h => absurd ((by decide : (0 : Int32) = 0)) h)
        refine q_iconst (pc' := 47) ja_Foresight_namesEachOnce_46 rfl 0 (by decide) ?_
        exact q_iret ja_Foresight_namesEachOnce_47 rfl (by decide) (k4 h4 h6 h7)
      · intro h8
        refine q_iload_n (pc' := 13) ja_Motions_has_12 rfl rfl ?_
        refine q_aload_n (pc' := 14) ja_Motions_has_13 rfl rfl ?_
        refine q_getf (pc' := 17) (v := .int (s 66 1)) ja_Motions_has_14 rfl (by decide) ⟨rfl, by decide⟩ rfl ?_
        refine q_ic_ge (pc' := 20) ja_Motions_has_17 rfl ?_ ?_
        · intro h9
          refine q_iconst (pc' := 25) ja_Motions_has_24 rfl 0 (by decide) ?_
          refine q_iret ja_Motions_has_25 rfl (by decide) ?_
          show q_W _ _ _ _ 34 [some (.ref 65), some (.int x1), some (.int x2), some (.int x3), some (.int x4), some (.int (x2 - x2 / 6 * 6))] [.int 0] s
          refine q_if_eq (pc' := 37) ja_Foresight_namesEachOnce_34 rfl (fun _ => ?_) (fun h => absurd ((by decide : (0 : Int32) = 0)) h)
          refine q_iconst (pc' := 47) ja_Foresight_namesEachOnce_46 rfl 0 (by decide) ?_
          exact q_iret ja_Foresight_namesEachOnce_47 rfl (by decide) (k5 h4 h6 h8 h9)
        · intro h10
          refine q_iconst (pc' := 21) ja_Motions_has_20 rfl 1 (by decide) ?_
          refine q_goto ja_Motions_has_21 ?_
          refine q_iret ja_Motions_has_25 rfl (by decide) ?_
          show q_W _ _ _ _ 34 [some (.ref 65), some (.int x1), some (.int x2), some (.int x3), some (.int x4), some (.int (x2 - x2 / 6 * 6))] [.int 1] s
          refine q_if_eq (pc' := 37) ja_Foresight_namesEachOnce_34 rfl (fun h => absurd h ((by decide : ¬ (1 : Int32) = 0))) (fun _ => ?_)
          refine q_iload_n (pc' := 38) ja_Foresight_namesEachOnce_37 rfl rfl ?_
          refine q_iload (pc' := 40) ja_Foresight_namesEachOnce_38 rfl rfl ?_
          refine q_ishr (pc' := 41) ja_Foresight_namesEachOnce_40 rfl ?_
          refine q_iconst (pc' := 42) ja_Foresight_namesEachOnce_41 rfl 1 (by decide) ?_
          refine q_iand (pc' := 43) ja_Foresight_namesEachOnce_42 rfl ?_
          refine q_if_eq (pc' := 46) ja_Foresight_namesEachOnce_43 rfl ?_ ?_
          · intro h11
            refine q_iload_n (pc' := 49) ja_Foresight_namesEachOnce_48 rfl rfl ?_
            refine q_iconst (pc' := 50) ja_Foresight_namesEachOnce_49 rfl 1 (by decide) ?_
            refine q_iload (pc' := 52) ja_Foresight_namesEachOnce_50 rfl rfl ?_
            refine q_ishl (pc' := 53) ja_Foresight_namesEachOnce_52 rfl ?_
            refine q_ior (pc' := 54) ja_Foresight_namesEachOnce_53 rfl ?_
            refine q_istore_n (pc' := 55) (ls' := [some (.ref 65), some (.int x1), some (.int x2), some (.int (x3 ||| (1 <<< ((x2 - x2 / 6 * 6) &&& 31)))), some (.int x4), some (.int (x2 - x2 / 6 * 6))]) ja_Foresight_namesEachOnce_54 rfl ⟨Nat.le_of_ble_eq_true rfl, rfl⟩ rfl ?_
            refine q_iload_n (pc' := 56) ja_Foresight_namesEachOnce_55 rfl rfl ?_
            refine q_bipush (pc' := 58) ja_Foresight_namesEachOnce_56 rfl 6 (by decide) ?_
            refine q_idiv (pc' := 59) ja_Foresight_namesEachOnce_58 rfl (by decide) ?_
            refine q_istore_n (pc' := 60) (ls' := [some (.ref 65), some (.int x1), some (.int (x2 / 6)), some (.int (x3 ||| (1 <<< ((x2 - x2 / 6 * 6) &&& 31)))), some (.int x4), some (.int (x2 - x2 / 6 * 6))]) ja_Foresight_namesEachOnce_59 rfl ⟨Nat.le_of_ble_eq_true rfl, rfl⟩ rfl ?_
            refine q_iinc (pc' := 63) (ls' := [some (.ref 65), some (.int x1), some (.int (x2 / 6)), some (.int (x3 ||| (1 <<< ((x2 - x2 / 6 * 6) &&& 31)))), some (.int (x4 + 1)), some (.int (x2 - x2 / 6 * 6))]) ja_Foresight_namesEachOnce_60 rfl rfl (x4 + 1) rfl ⟨Nat.le_of_ble_eq_true rfl, rfl⟩ rfl ?_
            refine q_goto ja_Foresight_namesEachOnce_63 ?_
            exact (k6 h4 h6 h8 h10 h11)
          · intro h12
            refine q_iconst (pc' := 47) ja_Foresight_namesEachOnce_46 rfl 0 (by decide) ?_
            exact q_iret ja_Foresight_namesEachOnce_47 rfl (by decide) (k7 h4 h6 h8 h10 h12)
set_option maxRecDepth 20000 in
theorem t_Foresight_weigh {G : jv_X} {d : Nat} {B : Option Value → jg_H → Prop} {s : jg_H} (a1 : Int32) (a2 : Int32)
    (k1 : (s 65 4) = (-1) → ∀ s1 : jg_H, s1 = jg_up s 65 4 a1 → ∀ s2 : jg_H, s2 = jg_up s1 65 5 a2 → B none s2)
    (k2 : ¬ (s 65 4) = (-1) → ¬ a2 ≤ (s 65 5) → ∀ s3 : jg_H, s3 = jg_up s 65 4 a1 → ∀ s4 : jg_H, s4 = jg_up s3 65 5 a2 → B none s4)
    (k3 : ¬ (s 65 4) = (-1) → a2 ≤ (s 65 5) → ¬ a2 = (s 65 5) → B none s)
    (k4 : ¬ (s 65 4) = (-1) → a2 ≤ (s 65 5) → a2 = (s 65 5) → ¬ a1 < (s 65 4) → B none s)
    (k5 : ¬ (s 65 4) = (-1) → a2 ≤ (s 65 5) → a2 = (s 65 5) → a1 < (s 65 4) → ∀ s5 : jg_H, s5 = jg_up s 65 4 a1 → ∀ s6 : jg_H, s6 = jg_up s5 65 5 a2 → B none s6) :
    q_P G (d + 1) 116 [.ref 65, .int a1, .int a2] s B := by
  refine q_in (M := jm_Foresight_weigh) rfl (Nat.le_of_ble_eq_true rfl) (ls := [some (.ref 65), some (.int a1), some (.int a2), none]) rfl ?_
  refine q_aload_n (pc' := 1) ja_Foresight_weigh_0 rfl rfl ?_
  refine q_getf (pc' := 4) (v := .int (s 65 4)) ja_Foresight_weigh_1 rfl (by decide) ⟨rfl, by decide⟩ rfl ?_
  refine q_iconst (pc' := 5) ja_Foresight_weigh_4 rfl (-1) (by decide) ?_
  refine q_ic_eq (pc' := 8) ja_Foresight_weigh_5 rfl ?_ ?_
  · intro h1
    refine q_iconst (pc' := 33) ja_Foresight_weigh_32 rfl 1 (by decide) ?_
    refine q_goto ja_Foresight_weigh_33 ?_
    refine q_istore_n (pc' := 38) (ls' := [some (.ref 65), some (.int a1), some (.int a2), some (.int 1)]) ja_Foresight_weigh_37 rfl ⟨Nat.le_of_ble_eq_true rfl, rfl⟩ rfl ?_
    refine q_iload_n (pc' := 39) ja_Foresight_weigh_38 rfl rfl ?_
    refine q_if_ne (pc' := 42) ja_Foresight_weigh_39 rfl (fun _ => ?_) (fun h => absurd h ((by decide : ¬ (1 : Int32) = 0)))
    refine q_aload_n (pc' := 44) ja_Foresight_weigh_43 rfl rfl ?_
    refine q_iload_n (pc' := 45) ja_Foresight_weigh_44 rfl rfl ?_
    refine q_putf (pc' := 48) ja_Foresight_weigh_45 rfl (by decide) rfl rfl rfl ?_
    intro s1 e1
    refine q_aload_n (pc' := 49) ja_Foresight_weigh_48 rfl rfl ?_
    refine q_iload_n (pc' := 50) ja_Foresight_weigh_49 rfl rfl ?_
    refine q_putf (pc' := 53) ja_Foresight_weigh_50 rfl (by decide) rfl rfl rfl ?_
    intro s2 e2
    exact q_vret ja_Foresight_weigh_53 rfl (k1 h1 s1 e1 s2 e2)
  · intro h2
    refine q_iload_n (pc' := 9) ja_Foresight_weigh_8 rfl rfl ?_
    refine q_aload_n (pc' := 10) ja_Foresight_weigh_9 rfl rfl ?_
    refine q_getf (pc' := 13) (v := .int (s 65 5)) ja_Foresight_weigh_10 rfl (by decide) ⟨rfl, by decide⟩ rfl ?_
    refine q_ic_gt (pc' := 16) ja_Foresight_weigh_13 rfl ?_ ?_
    · intro h3
      refine q_iconst (pc' := 33) ja_Foresight_weigh_32 rfl 1 (by decide) ?_
      refine q_goto ja_Foresight_weigh_33 ?_
      refine q_istore_n (pc' := 38) (ls' := [some (.ref 65), some (.int a1), some (.int a2), some (.int 1)]) ja_Foresight_weigh_37 rfl ⟨Nat.le_of_ble_eq_true rfl, rfl⟩ rfl ?_
      refine q_iload_n (pc' := 39) ja_Foresight_weigh_38 rfl rfl ?_
      refine q_if_ne (pc' := 42) ja_Foresight_weigh_39 rfl (fun _ => ?_) (fun h => absurd h ((by decide : ¬ (1 : Int32) = 0)))
      refine q_aload_n (pc' := 44) ja_Foresight_weigh_43 rfl rfl ?_
      refine q_iload_n (pc' := 45) ja_Foresight_weigh_44 rfl rfl ?_
      refine q_putf (pc' := 48) ja_Foresight_weigh_45 rfl (by decide) rfl rfl rfl ?_
      intro s3 e3
      refine q_aload_n (pc' := 49) ja_Foresight_weigh_48 rfl rfl ?_
      refine q_iload_n (pc' := 50) ja_Foresight_weigh_49 rfl rfl ?_
      refine q_putf (pc' := 53) ja_Foresight_weigh_50 rfl (by decide) rfl rfl rfl ?_
      intro s4 e4
      exact q_vret ja_Foresight_weigh_53 rfl (k2 h2 h3 s3 e3 s4 e4)
    · intro h4
      refine q_iload_n (pc' := 17) ja_Foresight_weigh_16 rfl rfl ?_
      refine q_aload_n (pc' := 18) ja_Foresight_weigh_17 rfl rfl ?_
      refine q_getf (pc' := 21) (v := .int (s 65 5)) ja_Foresight_weigh_18 rfl (by decide) ⟨rfl, by decide⟩ rfl ?_
      refine q_ic_ne (pc' := 24) ja_Foresight_weigh_21 rfl ?_ ?_
      · intro h5
        refine q_iconst (pc' := 37) ja_Foresight_weigh_36 rfl 0 (by decide) ?_
        refine q_istore_n (pc' := 38) (ls' := [some (.ref 65), some (.int a1), some (.int a2), some (.int 0)]) ja_Foresight_weigh_37 rfl ⟨Nat.le_of_ble_eq_true rfl, rfl⟩ rfl ?_
        refine q_iload_n (pc' := 39) ja_Foresight_weigh_38 rfl rfl ?_
        refine q_if_ne (pc' := 42) ja_Foresight_weigh_39 rfl (fun h => absurd ((by decide : (0 : Int32) = 0)) h) (fun _ => ?_)
        exact q_vret ja_Foresight_weigh_42 rfl (k3 h2 h4 h5)
      · intro h6
        refine q_iload_n (pc' := 25) ja_Foresight_weigh_24 rfl rfl ?_
        refine q_aload_n (pc' := 26) ja_Foresight_weigh_25 rfl rfl ?_
        refine q_getf (pc' := 29) (v := .int (s 65 4)) ja_Foresight_weigh_26 rfl (by decide) ⟨rfl, by decide⟩ rfl ?_
        refine q_ic_ge (pc' := 32) ja_Foresight_weigh_29 rfl ?_ ?_
        · intro h7
          refine q_iconst (pc' := 37) ja_Foresight_weigh_36 rfl 0 (by decide) ?_
          refine q_istore_n (pc' := 38) (ls' := [some (.ref 65), some (.int a1), some (.int a2), some (.int 0)]) ja_Foresight_weigh_37 rfl ⟨Nat.le_of_ble_eq_true rfl, rfl⟩ rfl ?_
          refine q_iload_n (pc' := 39) ja_Foresight_weigh_38 rfl rfl ?_
          refine q_if_ne (pc' := 42) ja_Foresight_weigh_39 rfl (fun h => absurd ((by decide : (0 : Int32) = 0)) h) (fun _ => ?_)
          exact q_vret ja_Foresight_weigh_42 rfl (k4 h2 h4 h6 h7)
        · intro h8
          refine q_iconst (pc' := 33) ja_Foresight_weigh_32 rfl 1 (by decide) ?_
          refine q_goto ja_Foresight_weigh_33 ?_
          refine q_istore_n (pc' := 38) (ls' := [some (.ref 65), some (.int a1), some (.int a2), some (.int 1)]) ja_Foresight_weigh_37 rfl ⟨Nat.le_of_ble_eq_true rfl, rfl⟩ rfl ?_
          refine q_iload_n (pc' := 39) ja_Foresight_weigh_38 rfl rfl ?_
          refine q_if_ne (pc' := 42) ja_Foresight_weigh_39 rfl (fun _ => ?_) (fun h => absurd h ((by decide : ¬ (1 : Int32) = 0)))
          refine q_aload_n (pc' := 44) ja_Foresight_weigh_43 rfl rfl ?_
          refine q_iload_n (pc' := 45) ja_Foresight_weigh_44 rfl rfl ?_
          refine q_putf (pc' := 48) ja_Foresight_weigh_45 rfl (by decide) rfl rfl rfl ?_
          intro s5 e5
          refine q_aload_n (pc' := 49) ja_Foresight_weigh_48 rfl rfl ?_
          refine q_iload_n (pc' := 50) ja_Foresight_weigh_49 rfl rfl ?_
          refine q_putf (pc' := 53) ja_Foresight_weigh_50 rfl (by decide) rfl rfl rfl ?_
          intro s6 e6
          exact q_vret ja_Foresight_weigh_53 rfl (k5 h2 h4 h6 h8 s5 e5 s6 e6)
set_option maxRecDepth 20000 in
theorem t_Foresight_worthBehindAll {G : jv_X} {d : Nat} {B : Option Value → jg_H → Prop} {s : jg_H} {c1 : Nat} (hc1 : f_5 c1)
    (k1 : (s 66 0) < 0 → B (some (.int 0)) s)
    (k2 : ¬ (s 66 0) < 0 → ¬ (s 66 0) < 6 → B (some (.int 0)) s)
    (k3 : ¬ (s 66 0) < 0 → (s 66 0) < 6 → q_P G d 64 [.ref (80 + 2 * (s 66 0).toNatClampNeg), .ref c1] s (fun v t => q_W G d jm_Foresight_worthBehindAll B 41 [some (.ref 65), some (.ref c1)] (v.toList ++ []) t)) :
    q_P G (d + 1) 113 [.ref 65, .ref c1] s B := by
  refine q_in (M := jm_Foresight_worthBehindAll) rfl (Nat.le_of_ble_eq_true rfl) (ls := [some (.ref 65), some (.ref c1)]) rfl ?_
  refine q_aload_n (pc' := 1) ja_Foresight_worthBehindAll_0 rfl rfl ?_
  refine q_getf (pc' := 4) (v := .ref 66) ja_Foresight_worthBehindAll_1 rfl (by decide) ⟨rfl, by decide⟩ rfl ?_
  refine q_getf (pc' := 7) (v := .int (s 66 0)) ja_Foresight_worthBehindAll_4 rfl (by decide) ⟨rfl, by decide⟩ rfl ?_
  refine q_if_lt (pc' := 10) ja_Foresight_worthBehindAll_7 rfl ?_ ?_
  · intro h1
    refine q_iconst (pc' := 45) ja_Foresight_worthBehindAll_44 rfl 0 (by decide) ?_
    exact q_iret ja_Foresight_worthBehindAll_45 rfl rfl (k1 h1)
  · intro h2
    refine q_aload_n (pc' := 11) ja_Foresight_worthBehindAll_10 rfl rfl ?_
    refine q_getf (pc' := 14) (v := .ref 66) ja_Foresight_worthBehindAll_11 rfl (by decide) ⟨rfl, by decide⟩ rfl ?_
    refine q_getf (pc' := 17) (v := .int (s 66 0)) ja_Foresight_worthBehindAll_14 rfl (by decide) ⟨rfl, by decide⟩ rfl ?_
    refine q_aload_n (pc' := 18) ja_Foresight_worthBehindAll_17 rfl rfl ?_
    refine q_getf (pc' := 21) (v := .ref 71) ja_Foresight_worthBehindAll_18 rfl (by decide) ⟨rfl, by decide⟩ rfl ?_
    refine q_alen (pc' := 22) ja_Foresight_worthBehindAll_21 rfl (by decide) (kd := 18) (l := 6) rfl (by decide) (v := 6) (by decide) ?_
    refine q_ic_ge (pc' := 25) ja_Foresight_worthBehindAll_22 rfl ?_ ?_
    · intro h3
      refine q_iconst (pc' := 45) ja_Foresight_worthBehindAll_44 rfl 0 (by decide) ?_
      exact q_iret ja_Foresight_worthBehindAll_45 rfl rfl (k2 h2 h3)
    · intro h4
      refine q_aload_n (pc' := 26) ja_Foresight_worthBehindAll_25 rfl rfl ?_
      refine q_getf (pc' := 29) (v := .ref 71) ja_Foresight_worthBehindAll_26 rfl (by decide) ⟨rfl, by decide⟩ rfl ?_
      refine q_aload_n (pc' := 30) ja_Foresight_worthBehindAll_29 rfl rfl ?_
      refine q_getf (pc' := 33) (v := .ref 66) ja_Foresight_worthBehindAll_30 rfl (by decide) ⟨rfl, by decide⟩ rfl ?_
      refine q_getf (pc' := 36) (v := .int (s 66 0)) ja_Foresight_worthBehindAll_33 rfl (by decide) ⟨rfl, by decide⟩ rfl ?_
      refine q_aald (pc' := 37) (v := .ref (80 + 2 * (s 66 0).toNatClampNeg)) ja_Foresight_worthBehindAll_36 rfl (by decide) (kd := 18) (l := 6) rfl (by decide) (q_inr (l := 6) (by decide) h2 h4) (f_A71 (f_in (q_inr (l := 6) (by decide) h2 h4))) ?_
      refine q_aload_n (pc' := 38) ja_Foresight_worthBehindAll_37 rfl rfl ?_
      refine q_virt (pc' := 41) (c := (80 + 2 * (s 66 0).toNatClampNeg)) (as := [.ref c1]) (r := []) ja_Foresight_worthBehindAll_38 rfl rfl rfl (f_8_c (f_m71 (f_in (q_inr (l := 6) (by decide) h2 h4)))) ⟨by rw [f_8_k (f_m71 (f_in (q_inr (l := 6) (by decide) h2 h4)))], by decide⟩ ?_
      exact (k3 h2 h4)
set_option maxRecDepth 20000 in
theorem t_Foresight_worthBehindAll_41 {G : jv_X} {d : Nat} {B : Option Value → jg_H → Prop} {s : jg_H} {x1 : Nat} (hx1 : f_5 x1) (y0 : Int32)
    (k1 : B (some (.int y0)) s) :
    q_W G d jm_Foresight_worthBehindAll B 41 [some (.ref 65), some (.ref x1)] [.int y0] s := by
  refine q_goto ja_Foresight_worthBehindAll_41 ?_
  exact q_iret ja_Foresight_worthBehindAll_45 rfl rfl k1
set_option maxRecDepth 20000 in
theorem t_M_act {G : jv_X} {d : Nat} {B : Option Value → jg_H → Prop} {s : jg_H} (a1 : Int32) (a2 : Int32) (a3 : Int32) (a4 : Int32)
    (k1 : q_P G d 187 [.ref 146, .int a1, .int a2, .int a3, .int a4] s (fun v t => q_W G d jm_M_act B 9 [some (.ref 146), some (.int a1), some (.int a2), some (.int a3), some (.int a4)] (v.toList ++ []) t)) :
    q_P G (d + 1) 186 [.ref 146, .int a1, .int a2, .int a3, .int a4] s B := by
  refine q_in (M := jm_M_act) rfl (Nat.le_of_ble_eq_true rfl) (ls := [some (.ref 146), some (.int a1), some (.int a2), some (.int a3), some (.int a4)]) rfl ?_
  refine q_aload_n (pc' := 1) ja_M_act_0 rfl rfl ?_
  refine q_iload_n (pc' := 2) ja_M_act_1 rfl rfl ?_
  refine q_iload_n (pc' := 3) ja_M_act_2 rfl rfl ?_
  refine q_iload_n (pc' := 4) ja_M_act_3 rfl rfl ?_
  refine q_iload (pc' := 6) ja_M_act_4 rfl rfl ?_
  refine q_virt (pc' := 9) (c := 146) (as := [.int a1, .int a2, .int a3, .int a4]) (r := []) ja_M_act_6 rfl rfl rfl (by decide) ⟨rfl, by decide⟩ ?_
  exact k1
set_option maxRecDepth 20000 in
theorem t_M_act_9 {G : jv_X} {d : Nat} {B : Option Value → jg_H → Prop} {s : jg_H} (x1 : Int32) (x2 : Int32) (x3 : Int32) (x4 : Int32) (y0 : Int32)
    (k1 : B (some (.int y0)) s) :
    q_W G d jm_M_act B 9 [some (.ref 146), some (.int x1), some (.int x2), some (.int x3), some (.int x4)] [.int y0] s := by
  exact q_iret ja_M_act_9 rfl rfl k1
set_option maxRecDepth 20000 in
theorem t_M_acts {G : jv_X} {d : Nat} {B : Option Value → jg_H → Prop} {s : jg_H} (a1 : Int32) (a2 : Int32) (a3 : Int32) (a4 : Int32)
    (k1 : q_P G (d + 2) 183 [.ref 146, .int a1, .int a2, .int a3, .int a4] s (fun v t => q_W G (d + 2) jm_M_acts B 9 [some (.ref 146), some (.int a1), some (.int a2), some (.int a3), some (.int a4), none] (v.toList ++ []) t)) :
    q_P G (d + 3) 187 [.ref 146, .int a1, .int a2, .int a3, .int a4] s B := by
  refine q_in (M := jm_M_acts) rfl (Nat.le_of_ble_eq_true rfl) (ls := [some (.ref 146), some (.int a1), some (.int a2), some (.int a3), some (.int a4), none]) rfl ?_
  refine q_aload_n (pc' := 1) ja_M_acts_0 rfl rfl ?_
  refine q_iload_n (pc' := 2) ja_M_acts_1 rfl rfl ?_
  refine q_iload_n (pc' := 3) ja_M_acts_2 rfl rfl ?_
  refine q_iload_n (pc' := 4) ja_M_acts_3 rfl rfl ?_
  refine q_iload (pc' := 6) ja_M_acts_4 rfl rfl ?_
  refine q_virt (pc' := 9) (c := 146) (as := [.int a1, .int a2, .int a3, .int a4]) (r := []) ja_M_acts_6 rfl rfl rfl (by decide) ⟨rfl, by decide⟩ ?_
  exact k1
set_option maxRecDepth 20000 in
theorem t_M_acts_9 {G : jv_X} {d : Nat} {B : Option Value → jg_H → Prop} {s : jg_H} (x1 : Int32) (x2 : Int32) (x3 : Int32) (x4 : Int32) (y0 : Int32)
    (k1 : ¬ y0 = 0 → q_P G (d + 2) 184 [.ref 146, .int x1, .int x2] s (fun v t => q_W G (d + 2) jm_M_acts B 21 [some (.ref 146), some (.int x1), some (.int x2), some (.int x3), some (.int x4), none] (v.toList ++ []) t))
    (k2 : y0 = 0 → B (some (.int (-2))) s) :
    q_W G (d + 2) jm_M_acts B 9 [some (.ref 146), some (.int x1), some (.int x2), some (.int x3), some (.int x4), none] [.int y0] s := by
  refine q_if_ne (pc' := 12) ja_M_acts_9 rfl ?_ ?_
  · intro h1
    refine q_aload_n (pc' := 16) ja_M_acts_15 rfl rfl ?_
    refine q_iload_n (pc' := 17) ja_M_acts_16 rfl rfl ?_
    refine q_iload_n (pc' := 18) ja_M_acts_17 rfl rfl ?_
    refine q_virt (pc' := 21) (c := 146) (as := [.int x1, .int x2]) (r := []) ja_M_acts_18 rfl rfl rfl (by decide) ⟨rfl, by decide⟩ ?_
    exact (k1 h1)
  · intro h2
    refine q_bipush (pc' := 14) ja_M_acts_12 rfl (-2) (by decide) ?_
    exact q_iret ja_M_acts_14 rfl rfl (k2 h2)
set_option maxRecDepth 20000 in
theorem t_M_acts_21 {G : jv_X} {d : Nat} {B : Option Value → jg_H → Prop} {s : jg_H} (x1 : Int32) (x2 : Int32) (x3 : Int32) (x4 : Int32) (y0 : Int32)
    (k1 : y0 = 0 → jv_in (s 146 18) 13 = true)
    (k2 : y0 = 0 → ∀ s1 : jg_H, s1 = jg_up s 157 (s 146 18).toNatClampNeg x1 → jv_in (s 146 18) 13 = true)
    (k3 : y0 = 0 → ∀ s1 : jg_H, s1 = jg_up s 157 (s 146 18).toNatClampNeg x1 → ∀ s2 : jg_H, s2 = jg_up s1 158 (s 146 18).toNatClampNeg x2 → ¬ x1 = 2 → jv_in (s 146 18) 13 = true)
    (k4 : y0 = 0 → ∀ s1 : jg_H, s1 = jg_up s 157 (s 146 18).toNatClampNeg x1 → ∀ s2 : jg_H, s2 = jg_up s1 158 (s 146 18).toNatClampNeg x2 → ¬ x1 = 2 → ∀ s3 : jg_H, s3 = jg_up s2 161 (s 146 18).toNatClampNeg 0 → x1 < 1 → jv_in (s 146 18) 13 = true)
    (k5 : y0 = 0 → ∀ s1 : jg_H, s1 = jg_up s 157 (s 146 18).toNatClampNeg x1 → ∀ s2 : jg_H, s2 = jg_up s1 158 (s 146 18).toNatClampNeg x2 → ¬ x1 = 2 → ∀ s3 : jg_H, s3 = jg_up s2 161 (s 146 18).toNatClampNeg 0 → x1 < 1 → ∀ s4 : jg_H, s4 = jg_up s3 159 (s 146 18).toNatClampNeg (-1) → x1 < 2 → ¬ x1 = 6 → jv_in (s 146 18) 13 = true)
    (k6 : y0 = 0 → ∀ s1 : jg_H, s1 = jg_up s 157 (s 146 18).toNatClampNeg x1 → ∀ s2 : jg_H, s2 = jg_up s1 158 (s 146 18).toNatClampNeg x2 → ¬ x1 = 2 → ∀ s3 : jg_H, s3 = jg_up s2 161 (s 146 18).toNatClampNeg 0 → x1 < 1 → ∀ s4 : jg_H, s4 = jg_up s3 159 (s 146 18).toNatClampNeg (-1) → x1 < 2 → ¬ x1 = 6 → ∀ s5 : jg_H, s5 = jg_up s4 160 (s 146 18).toNatClampNeg (-1) → ∀ s6 : jg_H, s6 = jg_up s5 146 18 ((s5 146 18) + 1) → ∀ s7 : jg_H, s7 = jg_up s6 146 17 ((s6 146 17) + 1) → B (some (.int (s7 146 18))) s7)
    (k7 : y0 = 0 → ∀ s1 : jg_H, s1 = jg_up s 157 (s 146 18).toNatClampNeg x1 → ∀ s2 : jg_H, s2 = jg_up s1 158 (s 146 18).toNatClampNeg x2 → ¬ x1 = 2 → ∀ s3 : jg_H, s3 = jg_up s2 161 (s 146 18).toNatClampNeg 0 → x1 < 1 → ∀ s4 : jg_H, s4 = jg_up s3 159 (s 146 18).toNatClampNeg (-1) → x1 < 2 → x1 = 6 → jv_in (s 146 18) 13 = true)
    (k8 : y0 = 0 → ∀ s1 : jg_H, s1 = jg_up s 157 (s 146 18).toNatClampNeg x1 → ∀ s2 : jg_H, s2 = jg_up s1 158 (s 146 18).toNatClampNeg x2 → ¬ x1 = 2 → ∀ s3 : jg_H, s3 = jg_up s2 161 (s 146 18).toNatClampNeg 0 → x1 < 1 → ∀ s4 : jg_H, s4 = jg_up s3 159 (s 146 18).toNatClampNeg (-1) → x1 < 2 → x1 = 6 → ∀ s8 : jg_H, s8 = jg_up s4 160 (s 146 18).toNatClampNeg x4 → ∀ s9 : jg_H, s9 = jg_up s8 146 18 ((s8 146 18) + 1) → ∀ s10 : jg_H, s10 = jg_up s9 146 17 ((s9 146 17) + 1) → B (some (.int (s10 146 18))) s10)
    (k9 : y0 = 0 → ∀ s1 : jg_H, s1 = jg_up s 157 (s 146 18).toNatClampNeg x1 → ∀ s2 : jg_H, s2 = jg_up s1 158 (s 146 18).toNatClampNeg x2 → ¬ x1 = 2 → ∀ s3 : jg_H, s3 = jg_up s2 161 (s 146 18).toNatClampNeg 0 → x1 < 1 → ∀ s4 : jg_H, s4 = jg_up s3 159 (s 146 18).toNatClampNeg (-1) → ¬ x1 < 2 → ¬ x1 ≤ 3 → ¬ x1 = 6 → jv_in (s 146 18) 13 = true)
    (k10 : y0 = 0 → ∀ s1 : jg_H, s1 = jg_up s 157 (s 146 18).toNatClampNeg x1 → ∀ s2 : jg_H, s2 = jg_up s1 158 (s 146 18).toNatClampNeg x2 → ¬ x1 = 2 → ∀ s3 : jg_H, s3 = jg_up s2 161 (s 146 18).toNatClampNeg 0 → x1 < 1 → ∀ s4 : jg_H, s4 = jg_up s3 159 (s 146 18).toNatClampNeg (-1) → ¬ x1 < 2 → ¬ x1 ≤ 3 → ¬ x1 = 6 → ∀ s11 : jg_H, s11 = jg_up s4 160 (s 146 18).toNatClampNeg (-1) → ∀ s12 : jg_H, s12 = jg_up s11 146 18 ((s11 146 18) + 1) → ∀ s13 : jg_H, s13 = jg_up s12 146 17 ((s12 146 17) + 1) → B (some (.int (s13 146 18))) s13)
    (k11 : y0 = 0 → ∀ s1 : jg_H, s1 = jg_up s 157 (s 146 18).toNatClampNeg x1 → ∀ s2 : jg_H, s2 = jg_up s1 158 (s 146 18).toNatClampNeg x2 → ¬ x1 = 2 → ∀ s3 : jg_H, s3 = jg_up s2 161 (s 146 18).toNatClampNeg 0 → x1 < 1 → ∀ s4 : jg_H, s4 = jg_up s3 159 (s 146 18).toNatClampNeg (-1) → ¬ x1 < 2 → ¬ x1 ≤ 3 → x1 = 6 → jv_in (s 146 18) 13 = true)
    (k12 : y0 = 0 → ∀ s1 : jg_H, s1 = jg_up s 157 (s 146 18).toNatClampNeg x1 → ∀ s2 : jg_H, s2 = jg_up s1 158 (s 146 18).toNatClampNeg x2 → ¬ x1 = 2 → ∀ s3 : jg_H, s3 = jg_up s2 161 (s 146 18).toNatClampNeg 0 → x1 < 1 → ∀ s4 : jg_H, s4 = jg_up s3 159 (s 146 18).toNatClampNeg (-1) → ¬ x1 < 2 → ¬ x1 ≤ 3 → x1 = 6 → ∀ s14 : jg_H, s14 = jg_up s4 160 (s 146 18).toNatClampNeg x4 → ∀ s15 : jg_H, s15 = jg_up s14 146 18 ((s14 146 18) + 1) → ∀ s16 : jg_H, s16 = jg_up s15 146 17 ((s15 146 17) + 1) → B (some (.int (s16 146 18))) s16)
    (k13 : y0 = 0 → ∀ s1 : jg_H, s1 = jg_up s 157 (s 146 18).toNatClampNeg x1 → ∀ s2 : jg_H, s2 = jg_up s1 158 (s 146 18).toNatClampNeg x2 → ¬ x1 = 2 → ∀ s3 : jg_H, s3 = jg_up s2 161 (s 146 18).toNatClampNeg 0 → x1 < 1 → ∀ s4 : jg_H, s4 = jg_up s3 159 (s 146 18).toNatClampNeg (-1) → ¬ x1 < 2 → x1 ≤ 3 → jv_in (s 146 18) 13 = true)
    (k14 : y0 = 0 → ∀ s1 : jg_H, s1 = jg_up s 157 (s 146 18).toNatClampNeg x1 → ∀ s2 : jg_H, s2 = jg_up s1 158 (s 146 18).toNatClampNeg x2 → ¬ x1 = 2 → ∀ s3 : jg_H, s3 = jg_up s2 161 (s 146 18).toNatClampNeg 0 → x1 < 1 → ∀ s4 : jg_H, s4 = jg_up s3 159 (s 146 18).toNatClampNeg (-1) → ¬ x1 < 2 → x1 ≤ 3 → ∀ s17 : jg_H, s17 = jg_up s4 160 (s 146 18).toNatClampNeg x4 → ∀ s18 : jg_H, s18 = jg_up s17 146 18 ((s17 146 18) + 1) → ∀ s19 : jg_H, s19 = jg_up s18 146 17 ((s18 146 17) + 1) → B (some (.int (s19 146 18))) s19)
    (k15 : y0 = 0 → ∀ s1 : jg_H, s1 = jg_up s 157 (s 146 18).toNatClampNeg x1 → ∀ s2 : jg_H, s2 = jg_up s1 158 (s 146 18).toNatClampNeg x2 → ¬ x1 = 2 → ∀ s3 : jg_H, s3 = jg_up s2 161 (s 146 18).toNatClampNeg 0 → ¬ x1 < 1 → ¬ x1 ≤ 3 → jv_in (s 146 18) 13 = true)
    (k16 : y0 = 0 → ∀ s1 : jg_H, s1 = jg_up s 157 (s 146 18).toNatClampNeg x1 → ∀ s2 : jg_H, s2 = jg_up s1 158 (s 146 18).toNatClampNeg x2 → ¬ x1 = 2 → ∀ s3 : jg_H, s3 = jg_up s2 161 (s 146 18).toNatClampNeg 0 → ¬ x1 < 1 → ¬ x1 ≤ 3 → ∀ s20 : jg_H, s20 = jg_up s3 159 (s 146 18).toNatClampNeg (-1) → x1 < 2 → ¬ x1 = 6 → jv_in (s 146 18) 13 = true)
    (k17 : y0 = 0 → ∀ s1 : jg_H, s1 = jg_up s 157 (s 146 18).toNatClampNeg x1 → ∀ s2 : jg_H, s2 = jg_up s1 158 (s 146 18).toNatClampNeg x2 → ¬ x1 = 2 → ∀ s3 : jg_H, s3 = jg_up s2 161 (s 146 18).toNatClampNeg 0 → ¬ x1 < 1 → ¬ x1 ≤ 3 → ∀ s20 : jg_H, s20 = jg_up s3 159 (s 146 18).toNatClampNeg (-1) → x1 < 2 → ¬ x1 = 6 → ∀ s21 : jg_H, s21 = jg_up s20 160 (s 146 18).toNatClampNeg (-1) → ∀ s22 : jg_H, s22 = jg_up s21 146 18 ((s21 146 18) + 1) → ∀ s23 : jg_H, s23 = jg_up s22 146 17 ((s22 146 17) + 1) → B (some (.int (s23 146 18))) s23)
    (k18 : y0 = 0 → ∀ s1 : jg_H, s1 = jg_up s 157 (s 146 18).toNatClampNeg x1 → ∀ s2 : jg_H, s2 = jg_up s1 158 (s 146 18).toNatClampNeg x2 → ¬ x1 = 2 → ∀ s3 : jg_H, s3 = jg_up s2 161 (s 146 18).toNatClampNeg 0 → ¬ x1 < 1 → ¬ x1 ≤ 3 → ∀ s20 : jg_H, s20 = jg_up s3 159 (s 146 18).toNatClampNeg (-1) → x1 < 2 → x1 = 6 → jv_in (s 146 18) 13 = true)
    (k19 : y0 = 0 → ∀ s1 : jg_H, s1 = jg_up s 157 (s 146 18).toNatClampNeg x1 → ∀ s2 : jg_H, s2 = jg_up s1 158 (s 146 18).toNatClampNeg x2 → ¬ x1 = 2 → ∀ s3 : jg_H, s3 = jg_up s2 161 (s 146 18).toNatClampNeg 0 → ¬ x1 < 1 → ¬ x1 ≤ 3 → ∀ s20 : jg_H, s20 = jg_up s3 159 (s 146 18).toNatClampNeg (-1) → x1 < 2 → x1 = 6 → ∀ s24 : jg_H, s24 = jg_up s20 160 (s 146 18).toNatClampNeg x4 → ∀ s25 : jg_H, s25 = jg_up s24 146 18 ((s24 146 18) + 1) → ∀ s26 : jg_H, s26 = jg_up s25 146 17 ((s25 146 17) + 1) → B (some (.int (s26 146 18))) s26)
    (k20 : y0 = 0 → ∀ s1 : jg_H, s1 = jg_up s 157 (s 146 18).toNatClampNeg x1 → ∀ s2 : jg_H, s2 = jg_up s1 158 (s 146 18).toNatClampNeg x2 → ¬ x1 = 2 → ∀ s3 : jg_H, s3 = jg_up s2 161 (s 146 18).toNatClampNeg 0 → ¬ x1 < 1 → ¬ x1 ≤ 3 → ∀ s20 : jg_H, s20 = jg_up s3 159 (s 146 18).toNatClampNeg (-1) → ¬ x1 < 2 → ¬ x1 = 6 → jv_in (s 146 18) 13 = true)
    (k21 : y0 = 0 → ∀ s1 : jg_H, s1 = jg_up s 157 (s 146 18).toNatClampNeg x1 → ∀ s2 : jg_H, s2 = jg_up s1 158 (s 146 18).toNatClampNeg x2 → ¬ x1 = 2 → ∀ s3 : jg_H, s3 = jg_up s2 161 (s 146 18).toNatClampNeg 0 → ¬ x1 < 1 → ¬ x1 ≤ 3 → ∀ s20 : jg_H, s20 = jg_up s3 159 (s 146 18).toNatClampNeg (-1) → ¬ x1 < 2 → ¬ x1 = 6 → ∀ s27 : jg_H, s27 = jg_up s20 160 (s 146 18).toNatClampNeg (-1) → ∀ s28 : jg_H, s28 = jg_up s27 146 18 ((s27 146 18) + 1) → ∀ s29 : jg_H, s29 = jg_up s28 146 17 ((s28 146 17) + 1) → B (some (.int (s29 146 18))) s29)
    (k22 : y0 = 0 → ∀ s1 : jg_H, s1 = jg_up s 157 (s 146 18).toNatClampNeg x1 → ∀ s2 : jg_H, s2 = jg_up s1 158 (s 146 18).toNatClampNeg x2 → ¬ x1 = 2 → ∀ s3 : jg_H, s3 = jg_up s2 161 (s 146 18).toNatClampNeg 0 → ¬ x1 < 1 → ¬ x1 ≤ 3 → ∀ s20 : jg_H, s20 = jg_up s3 159 (s 146 18).toNatClampNeg (-1) → ¬ x1 < 2 → x1 = 6 → jv_in (s 146 18) 13 = true)
    (k23 : y0 = 0 → ∀ s1 : jg_H, s1 = jg_up s 157 (s 146 18).toNatClampNeg x1 → ∀ s2 : jg_H, s2 = jg_up s1 158 (s 146 18).toNatClampNeg x2 → ¬ x1 = 2 → ∀ s3 : jg_H, s3 = jg_up s2 161 (s 146 18).toNatClampNeg 0 → ¬ x1 < 1 → ¬ x1 ≤ 3 → ∀ s20 : jg_H, s20 = jg_up s3 159 (s 146 18).toNatClampNeg (-1) → ¬ x1 < 2 → x1 = 6 → ∀ s30 : jg_H, s30 = jg_up s20 160 (s 146 18).toNatClampNeg x4 → ∀ s31 : jg_H, s31 = jg_up s30 146 18 ((s30 146 18) + 1) → ∀ s32 : jg_H, s32 = jg_up s31 146 17 ((s31 146 17) + 1) → B (some (.int (s32 146 18))) s32)
    (k24 : y0 = 0 → ∀ s1 : jg_H, s1 = jg_up s 157 (s 146 18).toNatClampNeg x1 → ∀ s2 : jg_H, s2 = jg_up s1 158 (s 146 18).toNatClampNeg x2 → ¬ x1 = 2 → ∀ s3 : jg_H, s3 = jg_up s2 161 (s 146 18).toNatClampNeg 0 → ¬ x1 < 1 → x1 ≤ 3 → jv_in (s 146 18) 13 = true)
    (k25 : y0 = 0 → ∀ s1 : jg_H, s1 = jg_up s 157 (s 146 18).toNatClampNeg x1 → ∀ s2 : jg_H, s2 = jg_up s1 158 (s 146 18).toNatClampNeg x2 → ¬ x1 = 2 → ∀ s3 : jg_H, s3 = jg_up s2 161 (s 146 18).toNatClampNeg 0 → ¬ x1 < 1 → x1 ≤ 3 → ∀ s33 : jg_H, s33 = jg_up s3 159 (s 146 18).toNatClampNeg x3 → x1 < 2 → ¬ x1 = 6 → jv_in (s 146 18) 13 = true)
    (k26 : y0 = 0 → ∀ s1 : jg_H, s1 = jg_up s 157 (s 146 18).toNatClampNeg x1 → ∀ s2 : jg_H, s2 = jg_up s1 158 (s 146 18).toNatClampNeg x2 → ¬ x1 = 2 → ∀ s3 : jg_H, s3 = jg_up s2 161 (s 146 18).toNatClampNeg 0 → ¬ x1 < 1 → x1 ≤ 3 → ∀ s33 : jg_H, s33 = jg_up s3 159 (s 146 18).toNatClampNeg x3 → x1 < 2 → ¬ x1 = 6 → ∀ s34 : jg_H, s34 = jg_up s33 160 (s 146 18).toNatClampNeg (-1) → ∀ s35 : jg_H, s35 = jg_up s34 146 18 ((s34 146 18) + 1) → ∀ s36 : jg_H, s36 = jg_up s35 146 17 ((s35 146 17) + 1) → B (some (.int (s36 146 18))) s36)
    (k27 : y0 = 0 → ∀ s1 : jg_H, s1 = jg_up s 157 (s 146 18).toNatClampNeg x1 → ∀ s2 : jg_H, s2 = jg_up s1 158 (s 146 18).toNatClampNeg x2 → ¬ x1 = 2 → ∀ s3 : jg_H, s3 = jg_up s2 161 (s 146 18).toNatClampNeg 0 → ¬ x1 < 1 → x1 ≤ 3 → ∀ s33 : jg_H, s33 = jg_up s3 159 (s 146 18).toNatClampNeg x3 → x1 < 2 → x1 = 6 → jv_in (s 146 18) 13 = true)
    (k28 : y0 = 0 → ∀ s1 : jg_H, s1 = jg_up s 157 (s 146 18).toNatClampNeg x1 → ∀ s2 : jg_H, s2 = jg_up s1 158 (s 146 18).toNatClampNeg x2 → ¬ x1 = 2 → ∀ s3 : jg_H, s3 = jg_up s2 161 (s 146 18).toNatClampNeg 0 → ¬ x1 < 1 → x1 ≤ 3 → ∀ s33 : jg_H, s33 = jg_up s3 159 (s 146 18).toNatClampNeg x3 → x1 < 2 → x1 = 6 → ∀ s37 : jg_H, s37 = jg_up s33 160 (s 146 18).toNatClampNeg x4 → ∀ s38 : jg_H, s38 = jg_up s37 146 18 ((s37 146 18) + 1) → ∀ s39 : jg_H, s39 = jg_up s38 146 17 ((s38 146 17) + 1) → B (some (.int (s39 146 18))) s39)
    (k29 : y0 = 0 → ∀ s1 : jg_H, s1 = jg_up s 157 (s 146 18).toNatClampNeg x1 → ∀ s2 : jg_H, s2 = jg_up s1 158 (s 146 18).toNatClampNeg x2 → ¬ x1 = 2 → ∀ s3 : jg_H, s3 = jg_up s2 161 (s 146 18).toNatClampNeg 0 → ¬ x1 < 1 → x1 ≤ 3 → ∀ s33 : jg_H, s33 = jg_up s3 159 (s 146 18).toNatClampNeg x3 → ¬ x1 < 2 → jv_in (s 146 18) 13 = true)
    (k30 : y0 = 0 → ∀ s1 : jg_H, s1 = jg_up s 157 (s 146 18).toNatClampNeg x1 → ∀ s2 : jg_H, s2 = jg_up s1 158 (s 146 18).toNatClampNeg x2 → ¬ x1 = 2 → ∀ s3 : jg_H, s3 = jg_up s2 161 (s 146 18).toNatClampNeg 0 → ¬ x1 < 1 → x1 ≤ 3 → ∀ s33 : jg_H, s33 = jg_up s3 159 (s 146 18).toNatClampNeg x3 → ¬ x1 < 2 → ∀ s40 : jg_H, s40 = jg_up s33 160 (s 146 18).toNatClampNeg x4 → ∀ s41 : jg_H, s41 = jg_up s40 146 18 ((s40 146 18) + 1) → ∀ s42 : jg_H, s42 = jg_up s41 146 17 ((s41 146 17) + 1) → B (some (.int (s42 146 18))) s42)
    (k31 : y0 = 0 → ∀ s1 : jg_H, s1 = jg_up s 157 (s 146 18).toNatClampNeg x1 → ∀ s2 : jg_H, s2 = jg_up s1 158 (s 146 18).toNatClampNeg x2 → x1 = 2 → jv_in (s2 146 13) 8 = true)
    (k32 : y0 = 0 → ∀ s1 : jg_H, s1 = jg_up s 157 (s 146 18).toNatClampNeg x1 → ∀ s2 : jg_H, s2 = jg_up s1 158 (s 146 18).toNatClampNeg x2 → x1 = 2 → ¬ x3 = (s2 153 (s2 146 13).toNatClampNeg) → jv_in (s 146 18) 13 = true)
    (k33 : y0 = 0 → ∀ s1 : jg_H, s1 = jg_up s 157 (s 146 18).toNatClampNeg x1 → ∀ s2 : jg_H, s2 = jg_up s1 158 (s 146 18).toNatClampNeg x2 → x1 = 2 → ¬ x3 = (s2 153 (s2 146 13).toNatClampNeg) → ∀ s43 : jg_H, s43 = jg_up s2 161 (s 146 18).toNatClampNeg 0 → x1 < 1 → jv_in (s 146 18) 13 = true)
    (k34 : y0 = 0 → ∀ s1 : jg_H, s1 = jg_up s 157 (s 146 18).toNatClampNeg x1 → ∀ s2 : jg_H, s2 = jg_up s1 158 (s 146 18).toNatClampNeg x2 → x1 = 2 → ¬ x3 = (s2 153 (s2 146 13).toNatClampNeg) → ∀ s43 : jg_H, s43 = jg_up s2 161 (s 146 18).toNatClampNeg 0 → x1 < 1 → ∀ s44 : jg_H, s44 = jg_up s43 159 (s 146 18).toNatClampNeg (-1) → x1 < 2 → ¬ x1 = 6 → jv_in (s 146 18) 13 = true)
    (k35 : y0 = 0 → ∀ s1 : jg_H, s1 = jg_up s 157 (s 146 18).toNatClampNeg x1 → ∀ s2 : jg_H, s2 = jg_up s1 158 (s 146 18).toNatClampNeg x2 → x1 = 2 → ¬ x3 = (s2 153 (s2 146 13).toNatClampNeg) → ∀ s43 : jg_H, s43 = jg_up s2 161 (s 146 18).toNatClampNeg 0 → x1 < 1 → ∀ s44 : jg_H, s44 = jg_up s43 159 (s 146 18).toNatClampNeg (-1) → x1 < 2 → ¬ x1 = 6 → ∀ s45 : jg_H, s45 = jg_up s44 160 (s 146 18).toNatClampNeg (-1) → ∀ s46 : jg_H, s46 = jg_up s45 146 18 ((s45 146 18) + 1) → ∀ s47 : jg_H, s47 = jg_up s46 146 17 ((s46 146 17) + 1) → B (some (.int (s47 146 18))) s47)
    (k36 : y0 = 0 → ∀ s1 : jg_H, s1 = jg_up s 157 (s 146 18).toNatClampNeg x1 → ∀ s2 : jg_H, s2 = jg_up s1 158 (s 146 18).toNatClampNeg x2 → x1 = 2 → ¬ x3 = (s2 153 (s2 146 13).toNatClampNeg) → ∀ s43 : jg_H, s43 = jg_up s2 161 (s 146 18).toNatClampNeg 0 → x1 < 1 → ∀ s44 : jg_H, s44 = jg_up s43 159 (s 146 18).toNatClampNeg (-1) → x1 < 2 → x1 = 6 → jv_in (s 146 18) 13 = true)
    (k37 : y0 = 0 → ∀ s1 : jg_H, s1 = jg_up s 157 (s 146 18).toNatClampNeg x1 → ∀ s2 : jg_H, s2 = jg_up s1 158 (s 146 18).toNatClampNeg x2 → x1 = 2 → ¬ x3 = (s2 153 (s2 146 13).toNatClampNeg) → ∀ s43 : jg_H, s43 = jg_up s2 161 (s 146 18).toNatClampNeg 0 → x1 < 1 → ∀ s44 : jg_H, s44 = jg_up s43 159 (s 146 18).toNatClampNeg (-1) → x1 < 2 → x1 = 6 → ∀ s48 : jg_H, s48 = jg_up s44 160 (s 146 18).toNatClampNeg x4 → ∀ s49 : jg_H, s49 = jg_up s48 146 18 ((s48 146 18) + 1) → ∀ s50 : jg_H, s50 = jg_up s49 146 17 ((s49 146 17) + 1) → B (some (.int (s50 146 18))) s50)
    (k38 : y0 = 0 → ∀ s1 : jg_H, s1 = jg_up s 157 (s 146 18).toNatClampNeg x1 → ∀ s2 : jg_H, s2 = jg_up s1 158 (s 146 18).toNatClampNeg x2 → x1 = 2 → ¬ x3 = (s2 153 (s2 146 13).toNatClampNeg) → ∀ s43 : jg_H, s43 = jg_up s2 161 (s 146 18).toNatClampNeg 0 → x1 < 1 → ∀ s44 : jg_H, s44 = jg_up s43 159 (s 146 18).toNatClampNeg (-1) → ¬ x1 < 2 → ¬ x1 ≤ 3 → ¬ x1 = 6 → jv_in (s 146 18) 13 = true)
    (k39 : y0 = 0 → ∀ s1 : jg_H, s1 = jg_up s 157 (s 146 18).toNatClampNeg x1 → ∀ s2 : jg_H, s2 = jg_up s1 158 (s 146 18).toNatClampNeg x2 → x1 = 2 → ¬ x3 = (s2 153 (s2 146 13).toNatClampNeg) → ∀ s43 : jg_H, s43 = jg_up s2 161 (s 146 18).toNatClampNeg 0 → x1 < 1 → ∀ s44 : jg_H, s44 = jg_up s43 159 (s 146 18).toNatClampNeg (-1) → ¬ x1 < 2 → ¬ x1 ≤ 3 → ¬ x1 = 6 → ∀ s51 : jg_H, s51 = jg_up s44 160 (s 146 18).toNatClampNeg (-1) → ∀ s52 : jg_H, s52 = jg_up s51 146 18 ((s51 146 18) + 1) → ∀ s53 : jg_H, s53 = jg_up s52 146 17 ((s52 146 17) + 1) → B (some (.int (s53 146 18))) s53)
    (k40 : y0 = 0 → ∀ s1 : jg_H, s1 = jg_up s 157 (s 146 18).toNatClampNeg x1 → ∀ s2 : jg_H, s2 = jg_up s1 158 (s 146 18).toNatClampNeg x2 → x1 = 2 → ¬ x3 = (s2 153 (s2 146 13).toNatClampNeg) → ∀ s43 : jg_H, s43 = jg_up s2 161 (s 146 18).toNatClampNeg 0 → x1 < 1 → ∀ s44 : jg_H, s44 = jg_up s43 159 (s 146 18).toNatClampNeg (-1) → ¬ x1 < 2 → ¬ x1 ≤ 3 → x1 = 6 → jv_in (s 146 18) 13 = true)
    (k41 : y0 = 0 → ∀ s1 : jg_H, s1 = jg_up s 157 (s 146 18).toNatClampNeg x1 → ∀ s2 : jg_H, s2 = jg_up s1 158 (s 146 18).toNatClampNeg x2 → x1 = 2 → ¬ x3 = (s2 153 (s2 146 13).toNatClampNeg) → ∀ s43 : jg_H, s43 = jg_up s2 161 (s 146 18).toNatClampNeg 0 → x1 < 1 → ∀ s44 : jg_H, s44 = jg_up s43 159 (s 146 18).toNatClampNeg (-1) → ¬ x1 < 2 → ¬ x1 ≤ 3 → x1 = 6 → ∀ s54 : jg_H, s54 = jg_up s44 160 (s 146 18).toNatClampNeg x4 → ∀ s55 : jg_H, s55 = jg_up s54 146 18 ((s54 146 18) + 1) → ∀ s56 : jg_H, s56 = jg_up s55 146 17 ((s55 146 17) + 1) → B (some (.int (s56 146 18))) s56)
    (k42 : y0 = 0 → ∀ s1 : jg_H, s1 = jg_up s 157 (s 146 18).toNatClampNeg x1 → ∀ s2 : jg_H, s2 = jg_up s1 158 (s 146 18).toNatClampNeg x2 → x1 = 2 → ¬ x3 = (s2 153 (s2 146 13).toNatClampNeg) → ∀ s43 : jg_H, s43 = jg_up s2 161 (s 146 18).toNatClampNeg 0 → x1 < 1 → ∀ s44 : jg_H, s44 = jg_up s43 159 (s 146 18).toNatClampNeg (-1) → ¬ x1 < 2 → x1 ≤ 3 → jv_in (s 146 18) 13 = true)
    (k43 : y0 = 0 → ∀ s1 : jg_H, s1 = jg_up s 157 (s 146 18).toNatClampNeg x1 → ∀ s2 : jg_H, s2 = jg_up s1 158 (s 146 18).toNatClampNeg x2 → x1 = 2 → ¬ x3 = (s2 153 (s2 146 13).toNatClampNeg) → ∀ s43 : jg_H, s43 = jg_up s2 161 (s 146 18).toNatClampNeg 0 → x1 < 1 → ∀ s44 : jg_H, s44 = jg_up s43 159 (s 146 18).toNatClampNeg (-1) → ¬ x1 < 2 → x1 ≤ 3 → ∀ s57 : jg_H, s57 = jg_up s44 160 (s 146 18).toNatClampNeg x4 → ∀ s58 : jg_H, s58 = jg_up s57 146 18 ((s57 146 18) + 1) → ∀ s59 : jg_H, s59 = jg_up s58 146 17 ((s58 146 17) + 1) → B (some (.int (s59 146 18))) s59)
    (k44 : y0 = 0 → ∀ s1 : jg_H, s1 = jg_up s 157 (s 146 18).toNatClampNeg x1 → ∀ s2 : jg_H, s2 = jg_up s1 158 (s 146 18).toNatClampNeg x2 → x1 = 2 → ¬ x3 = (s2 153 (s2 146 13).toNatClampNeg) → ∀ s43 : jg_H, s43 = jg_up s2 161 (s 146 18).toNatClampNeg 0 → ¬ x1 < 1 → ¬ x1 ≤ 3 → jv_in (s 146 18) 13 = true)
    (k45 : y0 = 0 → ∀ s1 : jg_H, s1 = jg_up s 157 (s 146 18).toNatClampNeg x1 → ∀ s2 : jg_H, s2 = jg_up s1 158 (s 146 18).toNatClampNeg x2 → x1 = 2 → ¬ x3 = (s2 153 (s2 146 13).toNatClampNeg) → ∀ s43 : jg_H, s43 = jg_up s2 161 (s 146 18).toNatClampNeg 0 → ¬ x1 < 1 → ¬ x1 ≤ 3 → ∀ s60 : jg_H, s60 = jg_up s43 159 (s 146 18).toNatClampNeg (-1) → x1 < 2 → ¬ x1 = 6 → jv_in (s 146 18) 13 = true)
    (k46 : y0 = 0 → ∀ s1 : jg_H, s1 = jg_up s 157 (s 146 18).toNatClampNeg x1 → ∀ s2 : jg_H, s2 = jg_up s1 158 (s 146 18).toNatClampNeg x2 → x1 = 2 → ¬ x3 = (s2 153 (s2 146 13).toNatClampNeg) → ∀ s43 : jg_H, s43 = jg_up s2 161 (s 146 18).toNatClampNeg 0 → ¬ x1 < 1 → ¬ x1 ≤ 3 → ∀ s60 : jg_H, s60 = jg_up s43 159 (s 146 18).toNatClampNeg (-1) → x1 < 2 → ¬ x1 = 6 → ∀ s61 : jg_H, s61 = jg_up s60 160 (s 146 18).toNatClampNeg (-1) → ∀ s62 : jg_H, s62 = jg_up s61 146 18 ((s61 146 18) + 1) → ∀ s63 : jg_H, s63 = jg_up s62 146 17 ((s62 146 17) + 1) → B (some (.int (s63 146 18))) s63)
    (k47 : y0 = 0 → ∀ s1 : jg_H, s1 = jg_up s 157 (s 146 18).toNatClampNeg x1 → ∀ s2 : jg_H, s2 = jg_up s1 158 (s 146 18).toNatClampNeg x2 → x1 = 2 → ¬ x3 = (s2 153 (s2 146 13).toNatClampNeg) → ∀ s43 : jg_H, s43 = jg_up s2 161 (s 146 18).toNatClampNeg 0 → ¬ x1 < 1 → ¬ x1 ≤ 3 → ∀ s60 : jg_H, s60 = jg_up s43 159 (s 146 18).toNatClampNeg (-1) → x1 < 2 → x1 = 6 → jv_in (s 146 18) 13 = true)
    (k48 : y0 = 0 → ∀ s1 : jg_H, s1 = jg_up s 157 (s 146 18).toNatClampNeg x1 → ∀ s2 : jg_H, s2 = jg_up s1 158 (s 146 18).toNatClampNeg x2 → x1 = 2 → ¬ x3 = (s2 153 (s2 146 13).toNatClampNeg) → ∀ s43 : jg_H, s43 = jg_up s2 161 (s 146 18).toNatClampNeg 0 → ¬ x1 < 1 → ¬ x1 ≤ 3 → ∀ s60 : jg_H, s60 = jg_up s43 159 (s 146 18).toNatClampNeg (-1) → x1 < 2 → x1 = 6 → ∀ s64 : jg_H, s64 = jg_up s60 160 (s 146 18).toNatClampNeg x4 → ∀ s65 : jg_H, s65 = jg_up s64 146 18 ((s64 146 18) + 1) → ∀ s66 : jg_H, s66 = jg_up s65 146 17 ((s65 146 17) + 1) → B (some (.int (s66 146 18))) s66)
    (k49 : y0 = 0 → ∀ s1 : jg_H, s1 = jg_up s 157 (s 146 18).toNatClampNeg x1 → ∀ s2 : jg_H, s2 = jg_up s1 158 (s 146 18).toNatClampNeg x2 → x1 = 2 → ¬ x3 = (s2 153 (s2 146 13).toNatClampNeg) → ∀ s43 : jg_H, s43 = jg_up s2 161 (s 146 18).toNatClampNeg 0 → ¬ x1 < 1 → ¬ x1 ≤ 3 → ∀ s60 : jg_H, s60 = jg_up s43 159 (s 146 18).toNatClampNeg (-1) → ¬ x1 < 2 → ¬ x1 = 6 → jv_in (s 146 18) 13 = true)
    (k50 : y0 = 0 → ∀ s1 : jg_H, s1 = jg_up s 157 (s 146 18).toNatClampNeg x1 → ∀ s2 : jg_H, s2 = jg_up s1 158 (s 146 18).toNatClampNeg x2 → x1 = 2 → ¬ x3 = (s2 153 (s2 146 13).toNatClampNeg) → ∀ s43 : jg_H, s43 = jg_up s2 161 (s 146 18).toNatClampNeg 0 → ¬ x1 < 1 → ¬ x1 ≤ 3 → ∀ s60 : jg_H, s60 = jg_up s43 159 (s 146 18).toNatClampNeg (-1) → ¬ x1 < 2 → ¬ x1 = 6 → ∀ s67 : jg_H, s67 = jg_up s60 160 (s 146 18).toNatClampNeg (-1) → ∀ s68 : jg_H, s68 = jg_up s67 146 18 ((s67 146 18) + 1) → ∀ s69 : jg_H, s69 = jg_up s68 146 17 ((s68 146 17) + 1) → B (some (.int (s69 146 18))) s69)
    (k51 : y0 = 0 → ∀ s1 : jg_H, s1 = jg_up s 157 (s 146 18).toNatClampNeg x1 → ∀ s2 : jg_H, s2 = jg_up s1 158 (s 146 18).toNatClampNeg x2 → x1 = 2 → ¬ x3 = (s2 153 (s2 146 13).toNatClampNeg) → ∀ s43 : jg_H, s43 = jg_up s2 161 (s 146 18).toNatClampNeg 0 → ¬ x1 < 1 → ¬ x1 ≤ 3 → ∀ s60 : jg_H, s60 = jg_up s43 159 (s 146 18).toNatClampNeg (-1) → ¬ x1 < 2 → x1 = 6 → jv_in (s 146 18) 13 = true)
    (k52 : y0 = 0 → ∀ s1 : jg_H, s1 = jg_up s 157 (s 146 18).toNatClampNeg x1 → ∀ s2 : jg_H, s2 = jg_up s1 158 (s 146 18).toNatClampNeg x2 → x1 = 2 → ¬ x3 = (s2 153 (s2 146 13).toNatClampNeg) → ∀ s43 : jg_H, s43 = jg_up s2 161 (s 146 18).toNatClampNeg 0 → ¬ x1 < 1 → ¬ x1 ≤ 3 → ∀ s60 : jg_H, s60 = jg_up s43 159 (s 146 18).toNatClampNeg (-1) → ¬ x1 < 2 → x1 = 6 → ∀ s70 : jg_H, s70 = jg_up s60 160 (s 146 18).toNatClampNeg x4 → ∀ s71 : jg_H, s71 = jg_up s70 146 18 ((s70 146 18) + 1) → ∀ s72 : jg_H, s72 = jg_up s71 146 17 ((s71 146 17) + 1) → B (some (.int (s72 146 18))) s72)
    (k53 : y0 = 0 → ∀ s1 : jg_H, s1 = jg_up s 157 (s 146 18).toNatClampNeg x1 → ∀ s2 : jg_H, s2 = jg_up s1 158 (s 146 18).toNatClampNeg x2 → x1 = 2 → ¬ x3 = (s2 153 (s2 146 13).toNatClampNeg) → ∀ s43 : jg_H, s43 = jg_up s2 161 (s 146 18).toNatClampNeg 0 → ¬ x1 < 1 → x1 ≤ 3 → jv_in (s 146 18) 13 = true)
    (k54 : y0 = 0 → ∀ s1 : jg_H, s1 = jg_up s 157 (s 146 18).toNatClampNeg x1 → ∀ s2 : jg_H, s2 = jg_up s1 158 (s 146 18).toNatClampNeg x2 → x1 = 2 → ¬ x3 = (s2 153 (s2 146 13).toNatClampNeg) → ∀ s43 : jg_H, s43 = jg_up s2 161 (s 146 18).toNatClampNeg 0 → ¬ x1 < 1 → x1 ≤ 3 → ∀ s73 : jg_H, s73 = jg_up s43 159 (s 146 18).toNatClampNeg x3 → x1 < 2 → ¬ x1 = 6 → jv_in (s 146 18) 13 = true)
    (k55 : y0 = 0 → ∀ s1 : jg_H, s1 = jg_up s 157 (s 146 18).toNatClampNeg x1 → ∀ s2 : jg_H, s2 = jg_up s1 158 (s 146 18).toNatClampNeg x2 → x1 = 2 → ¬ x3 = (s2 153 (s2 146 13).toNatClampNeg) → ∀ s43 : jg_H, s43 = jg_up s2 161 (s 146 18).toNatClampNeg 0 → ¬ x1 < 1 → x1 ≤ 3 → ∀ s73 : jg_H, s73 = jg_up s43 159 (s 146 18).toNatClampNeg x3 → x1 < 2 → ¬ x1 = 6 → ∀ s74 : jg_H, s74 = jg_up s73 160 (s 146 18).toNatClampNeg (-1) → ∀ s75 : jg_H, s75 = jg_up s74 146 18 ((s74 146 18) + 1) → ∀ s76 : jg_H, s76 = jg_up s75 146 17 ((s75 146 17) + 1) → B (some (.int (s76 146 18))) s76)
    (k56 : y0 = 0 → ∀ s1 : jg_H, s1 = jg_up s 157 (s 146 18).toNatClampNeg x1 → ∀ s2 : jg_H, s2 = jg_up s1 158 (s 146 18).toNatClampNeg x2 → x1 = 2 → ¬ x3 = (s2 153 (s2 146 13).toNatClampNeg) → ∀ s43 : jg_H, s43 = jg_up s2 161 (s 146 18).toNatClampNeg 0 → ¬ x1 < 1 → x1 ≤ 3 → ∀ s73 : jg_H, s73 = jg_up s43 159 (s 146 18).toNatClampNeg x3 → x1 < 2 → x1 = 6 → jv_in (s 146 18) 13 = true)
    (k57 : y0 = 0 → ∀ s1 : jg_H, s1 = jg_up s 157 (s 146 18).toNatClampNeg x1 → ∀ s2 : jg_H, s2 = jg_up s1 158 (s 146 18).toNatClampNeg x2 → x1 = 2 → ¬ x3 = (s2 153 (s2 146 13).toNatClampNeg) → ∀ s43 : jg_H, s43 = jg_up s2 161 (s 146 18).toNatClampNeg 0 → ¬ x1 < 1 → x1 ≤ 3 → ∀ s73 : jg_H, s73 = jg_up s43 159 (s 146 18).toNatClampNeg x3 → x1 < 2 → x1 = 6 → ∀ s77 : jg_H, s77 = jg_up s73 160 (s 146 18).toNatClampNeg x4 → ∀ s78 : jg_H, s78 = jg_up s77 146 18 ((s77 146 18) + 1) → ∀ s79 : jg_H, s79 = jg_up s78 146 17 ((s78 146 17) + 1) → B (some (.int (s79 146 18))) s79)
    (k58 : y0 = 0 → ∀ s1 : jg_H, s1 = jg_up s 157 (s 146 18).toNatClampNeg x1 → ∀ s2 : jg_H, s2 = jg_up s1 158 (s 146 18).toNatClampNeg x2 → x1 = 2 → ¬ x3 = (s2 153 (s2 146 13).toNatClampNeg) → ∀ s43 : jg_H, s43 = jg_up s2 161 (s 146 18).toNatClampNeg 0 → ¬ x1 < 1 → x1 ≤ 3 → ∀ s73 : jg_H, s73 = jg_up s43 159 (s 146 18).toNatClampNeg x3 → ¬ x1 < 2 → jv_in (s 146 18) 13 = true)
    (k59 : y0 = 0 → ∀ s1 : jg_H, s1 = jg_up s 157 (s 146 18).toNatClampNeg x1 → ∀ s2 : jg_H, s2 = jg_up s1 158 (s 146 18).toNatClampNeg x2 → x1 = 2 → ¬ x3 = (s2 153 (s2 146 13).toNatClampNeg) → ∀ s43 : jg_H, s43 = jg_up s2 161 (s 146 18).toNatClampNeg 0 → ¬ x1 < 1 → x1 ≤ 3 → ∀ s73 : jg_H, s73 = jg_up s43 159 (s 146 18).toNatClampNeg x3 → ¬ x1 < 2 → ∀ s80 : jg_H, s80 = jg_up s73 160 (s 146 18).toNatClampNeg x4 → ∀ s81 : jg_H, s81 = jg_up s80 146 18 ((s80 146 18) + 1) → ∀ s82 : jg_H, s82 = jg_up s81 146 17 ((s81 146 17) + 1) → B (some (.int (s82 146 18))) s82)
    (k60 : y0 = 0 → ∀ s1 : jg_H, s1 = jg_up s 157 (s 146 18).toNatClampNeg x1 → ∀ s2 : jg_H, s2 = jg_up s1 158 (s 146 18).toNatClampNeg x2 → x1 = 2 → x3 = (s2 153 (s2 146 13).toNatClampNeg) → jv_in (s 146 18) 13 = true)
    (k61 : y0 = 0 → ∀ s1 : jg_H, s1 = jg_up s 157 (s 146 18).toNatClampNeg x1 → ∀ s2 : jg_H, s2 = jg_up s1 158 (s 146 18).toNatClampNeg x2 → x1 = 2 → x3 = (s2 153 (s2 146 13).toNatClampNeg) → ∀ s83 : jg_H, s83 = jg_up s2 161 (s 146 18).toNatClampNeg 1 → x1 < 1 → jv_in (s 146 18) 13 = true)
    (k62 : y0 = 0 → ∀ s1 : jg_H, s1 = jg_up s 157 (s 146 18).toNatClampNeg x1 → ∀ s2 : jg_H, s2 = jg_up s1 158 (s 146 18).toNatClampNeg x2 → x1 = 2 → x3 = (s2 153 (s2 146 13).toNatClampNeg) → ∀ s83 : jg_H, s83 = jg_up s2 161 (s 146 18).toNatClampNeg 1 → x1 < 1 → ∀ s84 : jg_H, s84 = jg_up s83 159 (s 146 18).toNatClampNeg (-1) → x1 < 2 → ¬ x1 = 6 → jv_in (s 146 18) 13 = true)
    (k63 : y0 = 0 → ∀ s1 : jg_H, s1 = jg_up s 157 (s 146 18).toNatClampNeg x1 → ∀ s2 : jg_H, s2 = jg_up s1 158 (s 146 18).toNatClampNeg x2 → x1 = 2 → x3 = (s2 153 (s2 146 13).toNatClampNeg) → ∀ s83 : jg_H, s83 = jg_up s2 161 (s 146 18).toNatClampNeg 1 → x1 < 1 → ∀ s84 : jg_H, s84 = jg_up s83 159 (s 146 18).toNatClampNeg (-1) → x1 < 2 → ¬ x1 = 6 → ∀ s85 : jg_H, s85 = jg_up s84 160 (s 146 18).toNatClampNeg (-1) → ∀ s86 : jg_H, s86 = jg_up s85 146 18 ((s85 146 18) + 1) → ∀ s87 : jg_H, s87 = jg_up s86 146 17 ((s86 146 17) + 1) → B (some (.int (s87 146 18))) s87)
    (k64 : y0 = 0 → ∀ s1 : jg_H, s1 = jg_up s 157 (s 146 18).toNatClampNeg x1 → ∀ s2 : jg_H, s2 = jg_up s1 158 (s 146 18).toNatClampNeg x2 → x1 = 2 → x3 = (s2 153 (s2 146 13).toNatClampNeg) → ∀ s83 : jg_H, s83 = jg_up s2 161 (s 146 18).toNatClampNeg 1 → x1 < 1 → ∀ s84 : jg_H, s84 = jg_up s83 159 (s 146 18).toNatClampNeg (-1) → x1 < 2 → x1 = 6 → jv_in (s 146 18) 13 = true)
    (k65 : y0 = 0 → ∀ s1 : jg_H, s1 = jg_up s 157 (s 146 18).toNatClampNeg x1 → ∀ s2 : jg_H, s2 = jg_up s1 158 (s 146 18).toNatClampNeg x2 → x1 = 2 → x3 = (s2 153 (s2 146 13).toNatClampNeg) → ∀ s83 : jg_H, s83 = jg_up s2 161 (s 146 18).toNatClampNeg 1 → x1 < 1 → ∀ s84 : jg_H, s84 = jg_up s83 159 (s 146 18).toNatClampNeg (-1) → x1 < 2 → x1 = 6 → ∀ s88 : jg_H, s88 = jg_up s84 160 (s 146 18).toNatClampNeg x4 → ∀ s89 : jg_H, s89 = jg_up s88 146 18 ((s88 146 18) + 1) → ∀ s90 : jg_H, s90 = jg_up s89 146 17 ((s89 146 17) + 1) → B (some (.int (s90 146 18))) s90)
    (k66 : y0 = 0 → ∀ s1 : jg_H, s1 = jg_up s 157 (s 146 18).toNatClampNeg x1 → ∀ s2 : jg_H, s2 = jg_up s1 158 (s 146 18).toNatClampNeg x2 → x1 = 2 → x3 = (s2 153 (s2 146 13).toNatClampNeg) → ∀ s83 : jg_H, s83 = jg_up s2 161 (s 146 18).toNatClampNeg 1 → x1 < 1 → ∀ s84 : jg_H, s84 = jg_up s83 159 (s 146 18).toNatClampNeg (-1) → ¬ x1 < 2 → ¬ x1 ≤ 3 → ¬ x1 = 6 → jv_in (s 146 18) 13 = true)
    (k67 : y0 = 0 → ∀ s1 : jg_H, s1 = jg_up s 157 (s 146 18).toNatClampNeg x1 → ∀ s2 : jg_H, s2 = jg_up s1 158 (s 146 18).toNatClampNeg x2 → x1 = 2 → x3 = (s2 153 (s2 146 13).toNatClampNeg) → ∀ s83 : jg_H, s83 = jg_up s2 161 (s 146 18).toNatClampNeg 1 → x1 < 1 → ∀ s84 : jg_H, s84 = jg_up s83 159 (s 146 18).toNatClampNeg (-1) → ¬ x1 < 2 → ¬ x1 ≤ 3 → ¬ x1 = 6 → ∀ s91 : jg_H, s91 = jg_up s84 160 (s 146 18).toNatClampNeg (-1) → ∀ s92 : jg_H, s92 = jg_up s91 146 18 ((s91 146 18) + 1) → ∀ s93 : jg_H, s93 = jg_up s92 146 17 ((s92 146 17) + 1) → B (some (.int (s93 146 18))) s93)
    (k68 : y0 = 0 → ∀ s1 : jg_H, s1 = jg_up s 157 (s 146 18).toNatClampNeg x1 → ∀ s2 : jg_H, s2 = jg_up s1 158 (s 146 18).toNatClampNeg x2 → x1 = 2 → x3 = (s2 153 (s2 146 13).toNatClampNeg) → ∀ s83 : jg_H, s83 = jg_up s2 161 (s 146 18).toNatClampNeg 1 → x1 < 1 → ∀ s84 : jg_H, s84 = jg_up s83 159 (s 146 18).toNatClampNeg (-1) → ¬ x1 < 2 → ¬ x1 ≤ 3 → x1 = 6 → jv_in (s 146 18) 13 = true)
    (k69 : y0 = 0 → ∀ s1 : jg_H, s1 = jg_up s 157 (s 146 18).toNatClampNeg x1 → ∀ s2 : jg_H, s2 = jg_up s1 158 (s 146 18).toNatClampNeg x2 → x1 = 2 → x3 = (s2 153 (s2 146 13).toNatClampNeg) → ∀ s83 : jg_H, s83 = jg_up s2 161 (s 146 18).toNatClampNeg 1 → x1 < 1 → ∀ s84 : jg_H, s84 = jg_up s83 159 (s 146 18).toNatClampNeg (-1) → ¬ x1 < 2 → ¬ x1 ≤ 3 → x1 = 6 → ∀ s94 : jg_H, s94 = jg_up s84 160 (s 146 18).toNatClampNeg x4 → ∀ s95 : jg_H, s95 = jg_up s94 146 18 ((s94 146 18) + 1) → ∀ s96 : jg_H, s96 = jg_up s95 146 17 ((s95 146 17) + 1) → B (some (.int (s96 146 18))) s96)
    (k70 : y0 = 0 → ∀ s1 : jg_H, s1 = jg_up s 157 (s 146 18).toNatClampNeg x1 → ∀ s2 : jg_H, s2 = jg_up s1 158 (s 146 18).toNatClampNeg x2 → x1 = 2 → x3 = (s2 153 (s2 146 13).toNatClampNeg) → ∀ s83 : jg_H, s83 = jg_up s2 161 (s 146 18).toNatClampNeg 1 → x1 < 1 → ∀ s84 : jg_H, s84 = jg_up s83 159 (s 146 18).toNatClampNeg (-1) → ¬ x1 < 2 → x1 ≤ 3 → jv_in (s 146 18) 13 = true)
    (k71 : y0 = 0 → ∀ s1 : jg_H, s1 = jg_up s 157 (s 146 18).toNatClampNeg x1 → ∀ s2 : jg_H, s2 = jg_up s1 158 (s 146 18).toNatClampNeg x2 → x1 = 2 → x3 = (s2 153 (s2 146 13).toNatClampNeg) → ∀ s83 : jg_H, s83 = jg_up s2 161 (s 146 18).toNatClampNeg 1 → x1 < 1 → ∀ s84 : jg_H, s84 = jg_up s83 159 (s 146 18).toNatClampNeg (-1) → ¬ x1 < 2 → x1 ≤ 3 → ∀ s97 : jg_H, s97 = jg_up s84 160 (s 146 18).toNatClampNeg x4 → ∀ s98 : jg_H, s98 = jg_up s97 146 18 ((s97 146 18) + 1) → ∀ s99 : jg_H, s99 = jg_up s98 146 17 ((s98 146 17) + 1) → B (some (.int (s99 146 18))) s99)
    (k72 : y0 = 0 → ∀ s1 : jg_H, s1 = jg_up s 157 (s 146 18).toNatClampNeg x1 → ∀ s2 : jg_H, s2 = jg_up s1 158 (s 146 18).toNatClampNeg x2 → x1 = 2 → x3 = (s2 153 (s2 146 13).toNatClampNeg) → ∀ s83 : jg_H, s83 = jg_up s2 161 (s 146 18).toNatClampNeg 1 → ¬ x1 < 1 → ¬ x1 ≤ 3 → jv_in (s 146 18) 13 = true)
    (k73 : y0 = 0 → ∀ s1 : jg_H, s1 = jg_up s 157 (s 146 18).toNatClampNeg x1 → ∀ s2 : jg_H, s2 = jg_up s1 158 (s 146 18).toNatClampNeg x2 → x1 = 2 → x3 = (s2 153 (s2 146 13).toNatClampNeg) → ∀ s83 : jg_H, s83 = jg_up s2 161 (s 146 18).toNatClampNeg 1 → ¬ x1 < 1 → ¬ x1 ≤ 3 → ∀ s100 : jg_H, s100 = jg_up s83 159 (s 146 18).toNatClampNeg (-1) → x1 < 2 → ¬ x1 = 6 → jv_in (s 146 18) 13 = true)
    (k74 : y0 = 0 → ∀ s1 : jg_H, s1 = jg_up s 157 (s 146 18).toNatClampNeg x1 → ∀ s2 : jg_H, s2 = jg_up s1 158 (s 146 18).toNatClampNeg x2 → x1 = 2 → x3 = (s2 153 (s2 146 13).toNatClampNeg) → ∀ s83 : jg_H, s83 = jg_up s2 161 (s 146 18).toNatClampNeg 1 → ¬ x1 < 1 → ¬ x1 ≤ 3 → ∀ s100 : jg_H, s100 = jg_up s83 159 (s 146 18).toNatClampNeg (-1) → x1 < 2 → ¬ x1 = 6 → ∀ s101 : jg_H, s101 = jg_up s100 160 (s 146 18).toNatClampNeg (-1) → ∀ s102 : jg_H, s102 = jg_up s101 146 18 ((s101 146 18) + 1) → ∀ s103 : jg_H, s103 = jg_up s102 146 17 ((s102 146 17) + 1) → B (some (.int (s103 146 18))) s103)
    (k75 : y0 = 0 → ∀ s1 : jg_H, s1 = jg_up s 157 (s 146 18).toNatClampNeg x1 → ∀ s2 : jg_H, s2 = jg_up s1 158 (s 146 18).toNatClampNeg x2 → x1 = 2 → x3 = (s2 153 (s2 146 13).toNatClampNeg) → ∀ s83 : jg_H, s83 = jg_up s2 161 (s 146 18).toNatClampNeg 1 → ¬ x1 < 1 → ¬ x1 ≤ 3 → ∀ s100 : jg_H, s100 = jg_up s83 159 (s 146 18).toNatClampNeg (-1) → x1 < 2 → x1 = 6 → jv_in (s 146 18) 13 = true)
    (k76 : y0 = 0 → ∀ s1 : jg_H, s1 = jg_up s 157 (s 146 18).toNatClampNeg x1 → ∀ s2 : jg_H, s2 = jg_up s1 158 (s 146 18).toNatClampNeg x2 → x1 = 2 → x3 = (s2 153 (s2 146 13).toNatClampNeg) → ∀ s83 : jg_H, s83 = jg_up s2 161 (s 146 18).toNatClampNeg 1 → ¬ x1 < 1 → ¬ x1 ≤ 3 → ∀ s100 : jg_H, s100 = jg_up s83 159 (s 146 18).toNatClampNeg (-1) → x1 < 2 → x1 = 6 → ∀ s104 : jg_H, s104 = jg_up s100 160 (s 146 18).toNatClampNeg x4 → ∀ s105 : jg_H, s105 = jg_up s104 146 18 ((s104 146 18) + 1) → ∀ s106 : jg_H, s106 = jg_up s105 146 17 ((s105 146 17) + 1) → B (some (.int (s106 146 18))) s106)
    (k77 : y0 = 0 → ∀ s1 : jg_H, s1 = jg_up s 157 (s 146 18).toNatClampNeg x1 → ∀ s2 : jg_H, s2 = jg_up s1 158 (s 146 18).toNatClampNeg x2 → x1 = 2 → x3 = (s2 153 (s2 146 13).toNatClampNeg) → ∀ s83 : jg_H, s83 = jg_up s2 161 (s 146 18).toNatClampNeg 1 → ¬ x1 < 1 → ¬ x1 ≤ 3 → ∀ s100 : jg_H, s100 = jg_up s83 159 (s 146 18).toNatClampNeg (-1) → ¬ x1 < 2 → ¬ x1 = 6 → jv_in (s 146 18) 13 = true)
    (k78 : y0 = 0 → ∀ s1 : jg_H, s1 = jg_up s 157 (s 146 18).toNatClampNeg x1 → ∀ s2 : jg_H, s2 = jg_up s1 158 (s 146 18).toNatClampNeg x2 → x1 = 2 → x3 = (s2 153 (s2 146 13).toNatClampNeg) → ∀ s83 : jg_H, s83 = jg_up s2 161 (s 146 18).toNatClampNeg 1 → ¬ x1 < 1 → ¬ x1 ≤ 3 → ∀ s100 : jg_H, s100 = jg_up s83 159 (s 146 18).toNatClampNeg (-1) → ¬ x1 < 2 → ¬ x1 = 6 → ∀ s107 : jg_H, s107 = jg_up s100 160 (s 146 18).toNatClampNeg (-1) → ∀ s108 : jg_H, s108 = jg_up s107 146 18 ((s107 146 18) + 1) → ∀ s109 : jg_H, s109 = jg_up s108 146 17 ((s108 146 17) + 1) → B (some (.int (s109 146 18))) s109)
    (k79 : y0 = 0 → ∀ s1 : jg_H, s1 = jg_up s 157 (s 146 18).toNatClampNeg x1 → ∀ s2 : jg_H, s2 = jg_up s1 158 (s 146 18).toNatClampNeg x2 → x1 = 2 → x3 = (s2 153 (s2 146 13).toNatClampNeg) → ∀ s83 : jg_H, s83 = jg_up s2 161 (s 146 18).toNatClampNeg 1 → ¬ x1 < 1 → ¬ x1 ≤ 3 → ∀ s100 : jg_H, s100 = jg_up s83 159 (s 146 18).toNatClampNeg (-1) → ¬ x1 < 2 → x1 = 6 → jv_in (s 146 18) 13 = true)
    (k80 : y0 = 0 → ∀ s1 : jg_H, s1 = jg_up s 157 (s 146 18).toNatClampNeg x1 → ∀ s2 : jg_H, s2 = jg_up s1 158 (s 146 18).toNatClampNeg x2 → x1 = 2 → x3 = (s2 153 (s2 146 13).toNatClampNeg) → ∀ s83 : jg_H, s83 = jg_up s2 161 (s 146 18).toNatClampNeg 1 → ¬ x1 < 1 → ¬ x1 ≤ 3 → ∀ s100 : jg_H, s100 = jg_up s83 159 (s 146 18).toNatClampNeg (-1) → ¬ x1 < 2 → x1 = 6 → ∀ s110 : jg_H, s110 = jg_up s100 160 (s 146 18).toNatClampNeg x4 → ∀ s111 : jg_H, s111 = jg_up s110 146 18 ((s110 146 18) + 1) → ∀ s112 : jg_H, s112 = jg_up s111 146 17 ((s111 146 17) + 1) → B (some (.int (s112 146 18))) s112)
    (k81 : y0 = 0 → ∀ s1 : jg_H, s1 = jg_up s 157 (s 146 18).toNatClampNeg x1 → ∀ s2 : jg_H, s2 = jg_up s1 158 (s 146 18).toNatClampNeg x2 → x1 = 2 → x3 = (s2 153 (s2 146 13).toNatClampNeg) → ∀ s83 : jg_H, s83 = jg_up s2 161 (s 146 18).toNatClampNeg 1 → ¬ x1 < 1 → x1 ≤ 3 → jv_in (s 146 18) 13 = true)
    (k82 : y0 = 0 → ∀ s1 : jg_H, s1 = jg_up s 157 (s 146 18).toNatClampNeg x1 → ∀ s2 : jg_H, s2 = jg_up s1 158 (s 146 18).toNatClampNeg x2 → x1 = 2 → x3 = (s2 153 (s2 146 13).toNatClampNeg) → ∀ s83 : jg_H, s83 = jg_up s2 161 (s 146 18).toNatClampNeg 1 → ¬ x1 < 1 → x1 ≤ 3 → ∀ s113 : jg_H, s113 = jg_up s83 159 (s 146 18).toNatClampNeg x3 → x1 < 2 → ¬ x1 = 6 → jv_in (s 146 18) 13 = true)
    (k83 : y0 = 0 → ∀ s1 : jg_H, s1 = jg_up s 157 (s 146 18).toNatClampNeg x1 → ∀ s2 : jg_H, s2 = jg_up s1 158 (s 146 18).toNatClampNeg x2 → x1 = 2 → x3 = (s2 153 (s2 146 13).toNatClampNeg) → ∀ s83 : jg_H, s83 = jg_up s2 161 (s 146 18).toNatClampNeg 1 → ¬ x1 < 1 → x1 ≤ 3 → ∀ s113 : jg_H, s113 = jg_up s83 159 (s 146 18).toNatClampNeg x3 → x1 < 2 → ¬ x1 = 6 → ∀ s114 : jg_H, s114 = jg_up s113 160 (s 146 18).toNatClampNeg (-1) → ∀ s115 : jg_H, s115 = jg_up s114 146 18 ((s114 146 18) + 1) → ∀ s116 : jg_H, s116 = jg_up s115 146 17 ((s115 146 17) + 1) → B (some (.int (s116 146 18))) s116)
    (k84 : y0 = 0 → ∀ s1 : jg_H, s1 = jg_up s 157 (s 146 18).toNatClampNeg x1 → ∀ s2 : jg_H, s2 = jg_up s1 158 (s 146 18).toNatClampNeg x2 → x1 = 2 → x3 = (s2 153 (s2 146 13).toNatClampNeg) → ∀ s83 : jg_H, s83 = jg_up s2 161 (s 146 18).toNatClampNeg 1 → ¬ x1 < 1 → x1 ≤ 3 → ∀ s113 : jg_H, s113 = jg_up s83 159 (s 146 18).toNatClampNeg x3 → x1 < 2 → x1 = 6 → jv_in (s 146 18) 13 = true)
    (k85 : y0 = 0 → ∀ s1 : jg_H, s1 = jg_up s 157 (s 146 18).toNatClampNeg x1 → ∀ s2 : jg_H, s2 = jg_up s1 158 (s 146 18).toNatClampNeg x2 → x1 = 2 → x3 = (s2 153 (s2 146 13).toNatClampNeg) → ∀ s83 : jg_H, s83 = jg_up s2 161 (s 146 18).toNatClampNeg 1 → ¬ x1 < 1 → x1 ≤ 3 → ∀ s113 : jg_H, s113 = jg_up s83 159 (s 146 18).toNatClampNeg x3 → x1 < 2 → x1 = 6 → ∀ s117 : jg_H, s117 = jg_up s113 160 (s 146 18).toNatClampNeg x4 → ∀ s118 : jg_H, s118 = jg_up s117 146 18 ((s117 146 18) + 1) → ∀ s119 : jg_H, s119 = jg_up s118 146 17 ((s118 146 17) + 1) → B (some (.int (s119 146 18))) s119)
    (k86 : y0 = 0 → ∀ s1 : jg_H, s1 = jg_up s 157 (s 146 18).toNatClampNeg x1 → ∀ s2 : jg_H, s2 = jg_up s1 158 (s 146 18).toNatClampNeg x2 → x1 = 2 → x3 = (s2 153 (s2 146 13).toNatClampNeg) → ∀ s83 : jg_H, s83 = jg_up s2 161 (s 146 18).toNatClampNeg 1 → ¬ x1 < 1 → x1 ≤ 3 → ∀ s113 : jg_H, s113 = jg_up s83 159 (s 146 18).toNatClampNeg x3 → ¬ x1 < 2 → jv_in (s 146 18) 13 = true)
    (k87 : y0 = 0 → ∀ s1 : jg_H, s1 = jg_up s 157 (s 146 18).toNatClampNeg x1 → ∀ s2 : jg_H, s2 = jg_up s1 158 (s 146 18).toNatClampNeg x2 → x1 = 2 → x3 = (s2 153 (s2 146 13).toNatClampNeg) → ∀ s83 : jg_H, s83 = jg_up s2 161 (s 146 18).toNatClampNeg 1 → ¬ x1 < 1 → x1 ≤ 3 → ∀ s113 : jg_H, s113 = jg_up s83 159 (s 146 18).toNatClampNeg x3 → ¬ x1 < 2 → ∀ s120 : jg_H, s120 = jg_up s113 160 (s 146 18).toNatClampNeg x4 → ∀ s121 : jg_H, s121 = jg_up s120 146 18 ((s120 146 18) + 1) → ∀ s122 : jg_H, s122 = jg_up s121 146 17 ((s121 146 17) + 1) → B (some (.int (s122 146 18))) s122)
    (k88 : ¬ y0 = 0 → B (some (.int ((-20) - y0))) s) :
    q_W G (d + 2) jm_M_acts B 21 [some (.ref 146), some (.int x1), some (.int x2), some (.int x3), some (.int x4), none] [.int y0] s := by
  refine q_istore (pc' := 23) (ls' := [some (.ref 146), some (.int x1), some (.int x2), some (.int x3), some (.int x4), some (.int y0)]) ja_M_acts_21 rfl ⟨Nat.le_of_ble_eq_true rfl, rfl⟩ rfl ?_
  refine q_iload (pc' := 25) ja_M_acts_23 rfl rfl ?_
  refine q_if_eq (pc' := 28) ja_M_acts_25 rfl ?_ ?_
  · intro h1
    refine q_aload_n (pc' := 35) ja_M_acts_34 rfl rfl ?_
    refine q_aload_n (pc' := 36) ja_M_acts_35 rfl rfl ?_
    refine q_getf (pc' := 39) (v := .int (s 146 18)) ja_M_acts_36 rfl (by decide) ⟨rfl, by decide⟩ rfl ?_
    refine q_iload_n (pc' := 40) ja_M_acts_39 rfl rfl ?_
    refine q_iload_n (pc' := 41) ja_M_acts_40 rfl rfl ?_
    refine q_iload_n (pc' := 42) ja_M_acts_41 rfl rfl ?_
    refine q_iload (pc' := 44) ja_M_acts_42 rfl rfl ?_
    refine q_virt (pc' := 47) (c := 146) (as := [.int (s 146 18), .int x1, .int x2, .int x3, .int x4]) (r := []) ja_M_acts_44 rfl rfl rfl (by decide) ⟨rfl, by decide⟩ ?_
    refine q_in (M := jm_M_sets) rfl (Nat.le_of_ble_eq_true rfl) (ls := [some (.ref 146), some (.int (s 146 18)), some (.int x1), some (.int x2), some (.int x3), some (.int x4)]) rfl ?_
    refine q_aload_n (pc' := 1) ja_M_sets_0 rfl rfl ?_
    refine q_getf (pc' := 4) (v := .ref 157) ja_M_sets_1 rfl (by decide) ⟨rfl, by decide⟩ rfl ?_
    refine q_iload_n (pc' := 5) ja_M_sets_4 rfl rfl ?_
    refine q_iload_n (pc' := 6) ja_M_sets_5 rfl rfl ?_
    refine q_iast (pc' := 7) ja_M_sets_6 rfl (by decide) (l := 13) rfl (k1 h1) ?_
    intro s1 e1
    refine q_aload_n (pc' := 8) ja_M_sets_7 rfl rfl ?_
    refine q_getf (pc' := 11) (v := .ref 158) ja_M_sets_8 rfl (by decide) ⟨rfl, by decide⟩ rfl ?_
    refine q_iload_n (pc' := 12) ja_M_sets_11 rfl rfl ?_
    refine q_iload_n (pc' := 13) ja_M_sets_12 rfl rfl ?_
    refine q_iast (pc' := 14) ja_M_sets_13 rfl (by decide) (l := 13) rfl (k2 h1 s1 e1) ?_
    intro s2 e2
    refine q_aload_n (pc' := 15) ja_M_sets_14 rfl rfl ?_
    refine q_getf (pc' := 18) (v := .ref 161) ja_M_sets_15 rfl (by decide) ⟨rfl, by decide⟩ rfl ?_
    refine q_iload_n (pc' := 19) ja_M_sets_18 rfl rfl ?_
    refine q_iload_n (pc' := 20) ja_M_sets_19 rfl rfl ?_
    refine q_iconst (pc' := 21) ja_M_sets_20 rfl 2 (by decide) ?_
    refine q_ic_ne (pc' := 24) ja_M_sets_21 rfl ?_ ?_
    · intro h2
      refine q_iconst (pc' := 43) ja_M_sets_42 rfl 0 (by decide) ?_
      refine q_bast (pc' := 44) ja_M_sets_43 rfl (by decide) (l := 13) rfl (k3 h1 s1 e1 s2 e2 h2) (by decide) ?_
      intro s3 e3
      refine q_aload_n (pc' := 45) ja_M_sets_44 rfl rfl ?_
      refine q_getf (pc' := 48) (v := .ref 159) ja_M_sets_45 rfl (by decide) ⟨rfl, by decide⟩ rfl ?_
      refine q_iload_n (pc' := 49) ja_M_sets_48 rfl rfl ?_
      refine q_iload_n (pc' := 50) ja_M_sets_49 rfl rfl ?_
      refine q_iconst (pc' := 51) ja_M_sets_50 rfl 1 (by decide) ?_
      refine q_iconst (pc' := 52) ja_M_sets_51 rfl 3 (by decide) ?_
      refine q_stat (pc' := 55) (as := [.int x1, .int 1, .int 3]) (r := [.int (s 146 18), .ref 159]) ja_M_sets_52 rfl (by decide) rfl rfl ?_
      refine q_in (M := jm_M_in) rfl (Nat.le_of_ble_eq_true rfl) (ls := [some (.int x1), some (.int 1), some (.int 3)]) rfl ?_
      refine q_iload_n (pc' := 1) ja_M_in_0 rfl rfl ?_
      refine q_iload_n (pc' := 2) ja_M_in_1 rfl rfl ?_
      refine q_ic_lt (pc' := 5) ja_M_in_2 rfl ?_ ?_
      · intro h3
        refine q_iconst (pc' := 15) ja_M_in_14 rfl 0 (by decide) ?_
        refine q_iret ja_M_in_15 rfl (by decide) ?_
        show q_W _ _ _ _ 55 [some (.ref 146), some (.int (s 146 18)), some (.int x1), some (.int x2), some (.int x3), some (.int x4)] [.int 0, .int (s 146 18), .ref 159] s3
        refine q_if_eq (pc' := 58) ja_M_sets_55 rfl (fun _ => ?_) (fun h => absurd ((by decide : (0 : Int32) = 0)) h)
        refine q_iconst (pc' := 64) ja_M_sets_63 rfl (-1) (by decide) ?_
        refine q_iast (pc' := 65) ja_M_sets_64 rfl (by decide) (l := 13) rfl (k4 h1 s1 e1 s2 e2 h2 s3 e3 h3) ?_
        intro s4 e4
        refine q_aload_n (pc' := 66) ja_M_sets_65 rfl rfl ?_
        refine q_getf (pc' := 69) (v := .ref 160) ja_M_sets_66 rfl (by decide) ⟨rfl, by decide⟩ rfl ?_
        refine q_iload_n (pc' := 70) ja_M_sets_69 rfl rfl ?_
        refine q_iload_n (pc' := 71) ja_M_sets_70 rfl rfl ?_
        refine q_iconst (pc' := 72) ja_M_sets_71 rfl 2 (by decide) ?_
        refine q_iconst (pc' := 73) ja_M_sets_72 rfl 3 (by decide) ?_
        refine q_stat (pc' := 76) (as := [.int x1, .int 2, .int 3]) (r := [.int (s 146 18), .ref 160]) ja_M_sets_73 rfl (by decide) rfl rfl ?_
        refine q_in (M := jm_M_in) rfl (Nat.le_of_ble_eq_true rfl) (ls := [some (.int x1), some (.int 2), some (.int 3)]) rfl ?_
        refine q_iload_n (pc' := 1) ja_M_in_0 rfl rfl ?_
        refine q_iload_n (pc' := 2) ja_M_in_1 rfl rfl ?_
        refine q_ic_lt (pc' := 5) ja_M_in_2 rfl ?_ ?_
        · intro h4
          refine q_iconst (pc' := 15) ja_M_in_14 rfl 0 (by decide) ?_
          refine q_iret ja_M_in_15 rfl (by decide) ?_
          show q_W _ _ _ _ 76 [some (.ref 146), some (.int (s 146 18)), some (.int x1), some (.int x2), some (.int x3), some (.int x4)] [.int 0, .int (s 146 18), .ref 160] s4
          refine q_if_ne (pc' := 79) ja_M_sets_76 rfl (fun h => absurd ((by decide : (0 : Int32) = 0)) h) (fun _ => ?_)
          refine q_iload_n (pc' := 80) ja_M_sets_79 rfl rfl ?_
          refine q_bipush (pc' := 82) ja_M_sets_80 rfl 6 (by decide) ?_
          refine q_ic_ne (pc' := 85) ja_M_sets_82 rfl ?_ ?_
          · intro h5
            refine q_iconst (pc' := 91) ja_M_sets_90 rfl (-1) (by decide) ?_
            refine q_iast (pc' := 92) ja_M_sets_91 rfl (by decide) (l := 13) rfl (k5 h1 s1 e1 s2 e2 h2 s3 e3 h3 s4 e4 h4 h5) ?_
            intro s5 e5
            refine q_vret ja_M_sets_92 rfl ?_
            show q_W _ _ _ _ 47 [some (.ref 146), some (.int x1), some (.int x2), some (.int x3), some (.int x4), some (.int y0)] [] s5
            refine q_aload_n (pc' := 48) ja_M_acts_47 rfl rfl ?_
            refine q_dup (pc' := 49) ja_M_acts_48 rfl rfl ?_
            refine q_getf (pc' := 52) (v := .int (s5 146 18)) ja_M_acts_49 rfl (by decide) ⟨rfl, by decide⟩ rfl ?_
            refine q_iconst (pc' := 53) ja_M_acts_52 rfl 1 (by decide) ?_
            refine q_iadd (pc' := 54) ja_M_acts_53 rfl ?_
            refine q_putf (pc' := 57) ja_M_acts_54 rfl (by decide) rfl rfl rfl ?_
            intro s6 e6
            refine q_aload_n (pc' := 58) ja_M_acts_57 rfl rfl ?_
            refine q_dup (pc' := 59) ja_M_acts_58 rfl rfl ?_
            refine q_getf (pc' := 62) (v := .int (s6 146 17)) ja_M_acts_59 rfl (by decide) ⟨rfl, by decide⟩ rfl ?_
            refine q_iconst (pc' := 63) ja_M_acts_62 rfl 1 (by decide) ?_
            refine q_iadd (pc' := 64) ja_M_acts_63 rfl ?_
            refine q_putf (pc' := 67) ja_M_acts_64 rfl (by decide) rfl rfl rfl ?_
            intro s7 e7
            refine q_aload_n (pc' := 68) ja_M_acts_67 rfl rfl ?_
            refine q_getf (pc' := 71) (v := .int (s7 146 18)) ja_M_acts_68 rfl (by decide) ⟨rfl, by decide⟩ rfl ?_
            exact q_iret ja_M_acts_71 rfl rfl (k6 h1 s1 e1 s2 e2 h2 s3 e3 h3 s4 e4 h4 h5 s5 e5 s6 e6 s7 e7)
          · intro h6
            refine q_iload (pc' := 87) ja_M_sets_85 rfl rfl ?_
            refine q_goto ja_M_sets_87 ?_
            refine q_iast (pc' := 92) ja_M_sets_91 rfl (by decide) (l := 13) rfl (k7 h1 s1 e1 s2 e2 h2 s3 e3 h3 s4 e4 h4 h6) ?_
            intro s8 e8
            refine q_vret ja_M_sets_92 rfl ?_
            show q_W _ _ _ _ 47 [some (.ref 146), some (.int x1), some (.int x2), some (.int x3), some (.int x4), some (.int y0)] [] s8
            refine q_aload_n (pc' := 48) ja_M_acts_47 rfl rfl ?_
            refine q_dup (pc' := 49) ja_M_acts_48 rfl rfl ?_
            refine q_getf (pc' := 52) (v := .int (s8 146 18)) ja_M_acts_49 rfl (by decide) ⟨rfl, by decide⟩ rfl ?_
            refine q_iconst (pc' := 53) ja_M_acts_52 rfl 1 (by decide) ?_
            refine q_iadd (pc' := 54) ja_M_acts_53 rfl ?_
            refine q_putf (pc' := 57) ja_M_acts_54 rfl (by decide) rfl rfl rfl ?_
            intro s9 e9
            refine q_aload_n (pc' := 58) ja_M_acts_57 rfl rfl ?_
            refine q_dup (pc' := 59) ja_M_acts_58 rfl rfl ?_
            refine q_getf (pc' := 62) (v := .int (s9 146 17)) ja_M_acts_59 rfl (by decide) ⟨rfl, by decide⟩ rfl ?_
            refine q_iconst (pc' := 63) ja_M_acts_62 rfl 1 (by decide) ?_
            refine q_iadd (pc' := 64) ja_M_acts_63 rfl ?_
            refine q_putf (pc' := 67) ja_M_acts_64 rfl (by decide) rfl rfl rfl ?_
            intro s10 e10
            refine q_aload_n (pc' := 68) ja_M_acts_67 rfl rfl ?_
            refine q_getf (pc' := 71) (v := .int (s10 146 18)) ja_M_acts_68 rfl (by decide) ⟨rfl, by decide⟩ rfl ?_
            exact q_iret ja_M_acts_71 rfl rfl (k8 h1 s1 e1 s2 e2 h2 s3 e3 h3 s4 e4 h4 h6 s8 e8 s9 e9 s10 e10)
        · intro h7
          refine q_iload_n (pc' := 6) ja_M_in_5 rfl rfl ?_
          refine q_iload_n (pc' := 7) ja_M_in_6 rfl rfl ?_
          refine q_ic_gt (pc' := 10) ja_M_in_7 rfl ?_ ?_
          · intro h8
            refine q_iconst (pc' := 15) ja_M_in_14 rfl 0 (by decide) ?_
            refine q_iret ja_M_in_15 rfl (by decide) ?_
            show q_W _ _ _ _ 76 [some (.ref 146), some (.int (s 146 18)), some (.int x1), some (.int x2), some (.int x3), some (.int x4)] [.int 0, .int (s 146 18), .ref 160] s4
            refine q_if_ne (pc' := 79) ja_M_sets_76 rfl (fun h => absurd ((by decide : (0 : Int32) = 0)) h) (fun _ => ?_)
            refine q_iload_n (pc' := 80) ja_M_sets_79 rfl rfl ?_
            refine q_bipush (pc' := 82) ja_M_sets_80 rfl 6 (by decide) ?_
            refine q_ic_ne (pc' := 85) ja_M_sets_82 rfl ?_ ?_
            · intro h9
              refine q_iconst (pc' := 91) ja_M_sets_90 rfl (-1) (by decide) ?_
              refine q_iast (pc' := 92) ja_M_sets_91 rfl (by decide) (l := 13) rfl (k9 h1 s1 e1 s2 e2 h2 s3 e3 h3 s4 e4 h7 h8 h9) ?_
              intro s11 e11
              refine q_vret ja_M_sets_92 rfl ?_
              show q_W _ _ _ _ 47 [some (.ref 146), some (.int x1), some (.int x2), some (.int x3), some (.int x4), some (.int y0)] [] s11
              refine q_aload_n (pc' := 48) ja_M_acts_47 rfl rfl ?_
              refine q_dup (pc' := 49) ja_M_acts_48 rfl rfl ?_
              refine q_getf (pc' := 52) (v := .int (s11 146 18)) ja_M_acts_49 rfl (by decide) ⟨rfl, by decide⟩ rfl ?_
              refine q_iconst (pc' := 53) ja_M_acts_52 rfl 1 (by decide) ?_
              refine q_iadd (pc' := 54) ja_M_acts_53 rfl ?_
              refine q_putf (pc' := 57) ja_M_acts_54 rfl (by decide) rfl rfl rfl ?_
              intro s12 e12
              refine q_aload_n (pc' := 58) ja_M_acts_57 rfl rfl ?_
              refine q_dup (pc' := 59) ja_M_acts_58 rfl rfl ?_
              refine q_getf (pc' := 62) (v := .int (s12 146 17)) ja_M_acts_59 rfl (by decide) ⟨rfl, by decide⟩ rfl ?_
              refine q_iconst (pc' := 63) ja_M_acts_62 rfl 1 (by decide) ?_
              refine q_iadd (pc' := 64) ja_M_acts_63 rfl ?_
              refine q_putf (pc' := 67) ja_M_acts_64 rfl (by decide) rfl rfl rfl ?_
              intro s13 e13
              refine q_aload_n (pc' := 68) ja_M_acts_67 rfl rfl ?_
              refine q_getf (pc' := 71) (v := .int (s13 146 18)) ja_M_acts_68 rfl (by decide) ⟨rfl, by decide⟩ rfl ?_
              exact q_iret ja_M_acts_71 rfl rfl (k10 h1 s1 e1 s2 e2 h2 s3 e3 h3 s4 e4 h7 h8 h9 s11 e11 s12 e12 s13 e13)
            · intro h10
              refine q_iload (pc' := 87) ja_M_sets_85 rfl rfl ?_
              refine q_goto ja_M_sets_87 ?_
              refine q_iast (pc' := 92) ja_M_sets_91 rfl (by decide) (l := 13) rfl (k11 h1 s1 e1 s2 e2 h2 s3 e3 h3 s4 e4 h7 h8 h10) ?_
              intro s14 e14
              refine q_vret ja_M_sets_92 rfl ?_
              show q_W _ _ _ _ 47 [some (.ref 146), some (.int x1), some (.int x2), some (.int x3), some (.int x4), some (.int y0)] [] s14
              refine q_aload_n (pc' := 48) ja_M_acts_47 rfl rfl ?_
              refine q_dup (pc' := 49) ja_M_acts_48 rfl rfl ?_
              refine q_getf (pc' := 52) (v := .int (s14 146 18)) ja_M_acts_49 rfl (by decide) ⟨rfl, by decide⟩ rfl ?_
              refine q_iconst (pc' := 53) ja_M_acts_52 rfl 1 (by decide) ?_
              refine q_iadd (pc' := 54) ja_M_acts_53 rfl ?_
              refine q_putf (pc' := 57) ja_M_acts_54 rfl (by decide) rfl rfl rfl ?_
              intro s15 e15
              refine q_aload_n (pc' := 58) ja_M_acts_57 rfl rfl ?_
              refine q_dup (pc' := 59) ja_M_acts_58 rfl rfl ?_
              refine q_getf (pc' := 62) (v := .int (s15 146 17)) ja_M_acts_59 rfl (by decide) ⟨rfl, by decide⟩ rfl ?_
              refine q_iconst (pc' := 63) ja_M_acts_62 rfl 1 (by decide) ?_
              refine q_iadd (pc' := 64) ja_M_acts_63 rfl ?_
              refine q_putf (pc' := 67) ja_M_acts_64 rfl (by decide) rfl rfl rfl ?_
              intro s16 e16
              refine q_aload_n (pc' := 68) ja_M_acts_67 rfl rfl ?_
              refine q_getf (pc' := 71) (v := .int (s16 146 18)) ja_M_acts_68 rfl (by decide) ⟨rfl, by decide⟩ rfl ?_
              exact q_iret ja_M_acts_71 rfl rfl (k12 h1 s1 e1 s2 e2 h2 s3 e3 h3 s4 e4 h7 h8 h10 s14 e14 s15 e15 s16 e16)
          · intro h11
            refine q_iconst (pc' := 11) ja_M_in_10 rfl 1 (by decide) ?_
            refine q_goto ja_M_in_11 ?_
            refine q_iret ja_M_in_15 rfl (by decide) ?_
            show q_W _ _ _ _ 76 [some (.ref 146), some (.int (s 146 18)), some (.int x1), some (.int x2), some (.int x3), some (.int x4)] [.int 1, .int (s 146 18), .ref 160] s4
            refine q_if_ne (pc' := 79) ja_M_sets_76 rfl (fun _ => ?_) (fun h => absurd h ((by decide : ¬ (1 : Int32) = 0)))
            refine q_iload (pc' := 87) ja_M_sets_85 rfl rfl ?_
            refine q_goto ja_M_sets_87 ?_
            refine q_iast (pc' := 92) ja_M_sets_91 rfl (by decide) (l := 13) rfl (k13 h1 s1 e1 s2 e2 h2 s3 e3 h3 s4 e4 h7 h11) ?_
            intro s17 e17
            refine q_vret ja_M_sets_92 rfl ?_
            show q_W _ _ _ _ 47 [some (.ref 146), some (.int x1), some (.int x2), some (.int x3), some (.int x4), some (.int y0)] [] s17
            refine q_aload_n (pc' := 48) ja_M_acts_47 rfl rfl ?_
            refine q_dup (pc' := 49) ja_M_acts_48 rfl rfl ?_
            refine q_getf (pc' := 52) (v := .int (s17 146 18)) ja_M_acts_49 rfl (by decide) ⟨rfl, by decide⟩ rfl ?_
            refine q_iconst (pc' := 53) ja_M_acts_52 rfl 1 (by decide) ?_
            refine q_iadd (pc' := 54) ja_M_acts_53 rfl ?_
            refine q_putf (pc' := 57) ja_M_acts_54 rfl (by decide) rfl rfl rfl ?_
            intro s18 e18
            refine q_aload_n (pc' := 58) ja_M_acts_57 rfl rfl ?_
            refine q_dup (pc' := 59) ja_M_acts_58 rfl rfl ?_
            refine q_getf (pc' := 62) (v := .int (s18 146 17)) ja_M_acts_59 rfl (by decide) ⟨rfl, by decide⟩ rfl ?_
            refine q_iconst (pc' := 63) ja_M_acts_62 rfl 1 (by decide) ?_
            refine q_iadd (pc' := 64) ja_M_acts_63 rfl ?_
            refine q_putf (pc' := 67) ja_M_acts_64 rfl (by decide) rfl rfl rfl ?_
            intro s19 e19
            refine q_aload_n (pc' := 68) ja_M_acts_67 rfl rfl ?_
            refine q_getf (pc' := 71) (v := .int (s19 146 18)) ja_M_acts_68 rfl (by decide) ⟨rfl, by decide⟩ rfl ?_
            exact q_iret ja_M_acts_71 rfl rfl (k14 h1 s1 e1 s2 e2 h2 s3 e3 h3 s4 e4 h7 h11 s17 e17 s18 e18 s19 e19)
      · intro h12
        refine q_iload_n (pc' := 6) ja_M_in_5 rfl rfl ?_
        refine q_iload_n (pc' := 7) ja_M_in_6 rfl rfl ?_
        refine q_ic_gt (pc' := 10) ja_M_in_7 rfl ?_ ?_
        · intro h13
          refine q_iconst (pc' := 15) ja_M_in_14 rfl 0 (by decide) ?_
          refine q_iret ja_M_in_15 rfl (by decide) ?_
          show q_W _ _ _ _ 55 [some (.ref 146), some (.int (s 146 18)), some (.int x1), some (.int x2), some (.int x3), some (.int x4)] [.int 0, .int (s 146 18), .ref 159] s3
          refine q_if_eq (pc' := 58) ja_M_sets_55 rfl (fun _ => ?_) (fun h => absurd ((by decide : (0 : Int32) = 0)) h)
          refine q_iconst (pc' := 64) ja_M_sets_63 rfl (-1) (by decide) ?_
          refine q_iast (pc' := 65) ja_M_sets_64 rfl (by decide) (l := 13) rfl (k15 h1 s1 e1 s2 e2 h2 s3 e3 h12 h13) ?_
          intro s20 e20
          refine q_aload_n (pc' := 66) ja_M_sets_65 rfl rfl ?_
          refine q_getf (pc' := 69) (v := .ref 160) ja_M_sets_66 rfl (by decide) ⟨rfl, by decide⟩ rfl ?_
          refine q_iload_n (pc' := 70) ja_M_sets_69 rfl rfl ?_
          refine q_iload_n (pc' := 71) ja_M_sets_70 rfl rfl ?_
          refine q_iconst (pc' := 72) ja_M_sets_71 rfl 2 (by decide) ?_
          refine q_iconst (pc' := 73) ja_M_sets_72 rfl 3 (by decide) ?_
          refine q_stat (pc' := 76) (as := [.int x1, .int 2, .int 3]) (r := [.int (s 146 18), .ref 160]) ja_M_sets_73 rfl (by decide) rfl rfl ?_
          refine q_in (M := jm_M_in) rfl (Nat.le_of_ble_eq_true rfl) (ls := [some (.int x1), some (.int 2), some (.int 3)]) rfl ?_
          refine q_iload_n (pc' := 1) ja_M_in_0 rfl rfl ?_
          refine q_iload_n (pc' := 2) ja_M_in_1 rfl rfl ?_
          refine q_ic_lt (pc' := 5) ja_M_in_2 rfl ?_ ?_
          · intro h14
            refine q_iconst (pc' := 15) ja_M_in_14 rfl 0 (by decide) ?_
            refine q_iret ja_M_in_15 rfl (by decide) ?_
            show q_W _ _ _ _ 76 [some (.ref 146), some (.int (s 146 18)), some (.int x1), some (.int x2), some (.int x3), some (.int x4)] [.int 0, .int (s 146 18), .ref 160] s20
            refine q_if_ne (pc' := 79) ja_M_sets_76 rfl (fun h => absurd ((by decide : (0 : Int32) = 0)) h) (fun _ => ?_)
            refine q_iload_n (pc' := 80) ja_M_sets_79 rfl rfl ?_
            refine q_bipush (pc' := 82) ja_M_sets_80 rfl 6 (by decide) ?_
            refine q_ic_ne (pc' := 85) ja_M_sets_82 rfl ?_ ?_
            · intro h15
              refine q_iconst (pc' := 91) ja_M_sets_90 rfl (-1) (by decide) ?_
              refine q_iast (pc' := 92) ja_M_sets_91 rfl (by decide) (l := 13) rfl (k16 h1 s1 e1 s2 e2 h2 s3 e3 h12 h13 s20 e20 h14 h15) ?_
              intro s21 e21
              refine q_vret ja_M_sets_92 rfl ?_
              show q_W _ _ _ _ 47 [some (.ref 146), some (.int x1), some (.int x2), some (.int x3), some (.int x4), some (.int y0)] [] s21
              refine q_aload_n (pc' := 48) ja_M_acts_47 rfl rfl ?_
              refine q_dup (pc' := 49) ja_M_acts_48 rfl rfl ?_
              refine q_getf (pc' := 52) (v := .int (s21 146 18)) ja_M_acts_49 rfl (by decide) ⟨rfl, by decide⟩ rfl ?_
              refine q_iconst (pc' := 53) ja_M_acts_52 rfl 1 (by decide) ?_
              refine q_iadd (pc' := 54) ja_M_acts_53 rfl ?_
              refine q_putf (pc' := 57) ja_M_acts_54 rfl (by decide) rfl rfl rfl ?_
              intro s22 e22
              refine q_aload_n (pc' := 58) ja_M_acts_57 rfl rfl ?_
              refine q_dup (pc' := 59) ja_M_acts_58 rfl rfl ?_
              refine q_getf (pc' := 62) (v := .int (s22 146 17)) ja_M_acts_59 rfl (by decide) ⟨rfl, by decide⟩ rfl ?_
              refine q_iconst (pc' := 63) ja_M_acts_62 rfl 1 (by decide) ?_
              refine q_iadd (pc' := 64) ja_M_acts_63 rfl ?_
              refine q_putf (pc' := 67) ja_M_acts_64 rfl (by decide) rfl rfl rfl ?_
              intro s23 e23
              refine q_aload_n (pc' := 68) ja_M_acts_67 rfl rfl ?_
              refine q_getf (pc' := 71) (v := .int (s23 146 18)) ja_M_acts_68 rfl (by decide) ⟨rfl, by decide⟩ rfl ?_
              exact q_iret ja_M_acts_71 rfl rfl (k17 h1 s1 e1 s2 e2 h2 s3 e3 h12 h13 s20 e20 h14 h15 s21 e21 s22 e22 s23 e23)
            · intro h16
              refine q_iload (pc' := 87) ja_M_sets_85 rfl rfl ?_
              refine q_goto ja_M_sets_87 ?_
              refine q_iast (pc' := 92) ja_M_sets_91 rfl (by decide) (l := 13) rfl (k18 h1 s1 e1 s2 e2 h2 s3 e3 h12 h13 s20 e20 h14 h16) ?_
              intro s24 e24
              refine q_vret ja_M_sets_92 rfl ?_
              show q_W _ _ _ _ 47 [some (.ref 146), some (.int x1), some (.int x2), some (.int x3), some (.int x4), some (.int y0)] [] s24
              refine q_aload_n (pc' := 48) ja_M_acts_47 rfl rfl ?_
              refine q_dup (pc' := 49) ja_M_acts_48 rfl rfl ?_
              refine q_getf (pc' := 52) (v := .int (s24 146 18)) ja_M_acts_49 rfl (by decide) ⟨rfl, by decide⟩ rfl ?_
              refine q_iconst (pc' := 53) ja_M_acts_52 rfl 1 (by decide) ?_
              refine q_iadd (pc' := 54) ja_M_acts_53 rfl ?_
              refine q_putf (pc' := 57) ja_M_acts_54 rfl (by decide) rfl rfl rfl ?_
              intro s25 e25
              refine q_aload_n (pc' := 58) ja_M_acts_57 rfl rfl ?_
              refine q_dup (pc' := 59) ja_M_acts_58 rfl rfl ?_
              refine q_getf (pc' := 62) (v := .int (s25 146 17)) ja_M_acts_59 rfl (by decide) ⟨rfl, by decide⟩ rfl ?_
              refine q_iconst (pc' := 63) ja_M_acts_62 rfl 1 (by decide) ?_
              refine q_iadd (pc' := 64) ja_M_acts_63 rfl ?_
              refine q_putf (pc' := 67) ja_M_acts_64 rfl (by decide) rfl rfl rfl ?_
              intro s26 e26
              refine q_aload_n (pc' := 68) ja_M_acts_67 rfl rfl ?_
              refine q_getf (pc' := 71) (v := .int (s26 146 18)) ja_M_acts_68 rfl (by decide) ⟨rfl, by decide⟩ rfl ?_
              exact q_iret ja_M_acts_71 rfl rfl (k19 h1 s1 e1 s2 e2 h2 s3 e3 h12 h13 s20 e20 h14 h16 s24 e24 s25 e25 s26 e26)
          · intro h17
            refine q_iload_n (pc' := 6) ja_M_in_5 rfl rfl ?_
            refine q_iload_n (pc' := 7) ja_M_in_6 rfl rfl ?_
            refine q_ic_gt (pc' := 10) ja_M_in_7 rfl (fun _ => ?_) (fun h => absurd h (h13))
            refine q_iconst (pc' := 15) ja_M_in_14 rfl 0 (by decide) ?_
            refine q_iret ja_M_in_15 rfl (by decide) ?_
            show q_W _ _ _ _ 76 [some (.ref 146), some (.int (s 146 18)), some (.int x1), some (.int x2), some (.int x3), some (.int x4)] [.int 0, .int (s 146 18), .ref 160] s20
            refine q_if_ne (pc' := 79) ja_M_sets_76 rfl (fun h => absurd ((by decide : (0 : Int32) = 0)) h) (fun _ => ?_)
            refine q_iload_n (pc' := 80) ja_M_sets_79 rfl rfl ?_
            refine q_bipush (pc' := 82) ja_M_sets_80 rfl 6 (by decide) ?_
            refine q_ic_ne (pc' := 85) ja_M_sets_82 rfl ?_ ?_
            · intro h18
              refine q_iconst (pc' := 91) ja_M_sets_90 rfl (-1) (by decide) ?_
              refine q_iast (pc' := 92) ja_M_sets_91 rfl (by decide) (l := 13) rfl (k20 h1 s1 e1 s2 e2 h2 s3 e3 h12 h13 s20 e20 h17 h18) ?_
              intro s27 e27
              refine q_vret ja_M_sets_92 rfl ?_
              show q_W _ _ _ _ 47 [some (.ref 146), some (.int x1), some (.int x2), some (.int x3), some (.int x4), some (.int y0)] [] s27
              refine q_aload_n (pc' := 48) ja_M_acts_47 rfl rfl ?_
              refine q_dup (pc' := 49) ja_M_acts_48 rfl rfl ?_
              refine q_getf (pc' := 52) (v := .int (s27 146 18)) ja_M_acts_49 rfl (by decide) ⟨rfl, by decide⟩ rfl ?_
              refine q_iconst (pc' := 53) ja_M_acts_52 rfl 1 (by decide) ?_
              refine q_iadd (pc' := 54) ja_M_acts_53 rfl ?_
              refine q_putf (pc' := 57) ja_M_acts_54 rfl (by decide) rfl rfl rfl ?_
              intro s28 e28
              refine q_aload_n (pc' := 58) ja_M_acts_57 rfl rfl ?_
              refine q_dup (pc' := 59) ja_M_acts_58 rfl rfl ?_
              refine q_getf (pc' := 62) (v := .int (s28 146 17)) ja_M_acts_59 rfl (by decide) ⟨rfl, by decide⟩ rfl ?_
              refine q_iconst (pc' := 63) ja_M_acts_62 rfl 1 (by decide) ?_
              refine q_iadd (pc' := 64) ja_M_acts_63 rfl ?_
              refine q_putf (pc' := 67) ja_M_acts_64 rfl (by decide) rfl rfl rfl ?_
              intro s29 e29
              refine q_aload_n (pc' := 68) ja_M_acts_67 rfl rfl ?_
              refine q_getf (pc' := 71) (v := .int (s29 146 18)) ja_M_acts_68 rfl (by decide) ⟨rfl, by decide⟩ rfl ?_
              exact q_iret ja_M_acts_71 rfl rfl (k21 h1 s1 e1 s2 e2 h2 s3 e3 h12 h13 s20 e20 h17 h18 s27 e27 s28 e28 s29 e29)
            · intro h19
              refine q_iload (pc' := 87) ja_M_sets_85 rfl rfl ?_
              refine q_goto ja_M_sets_87 ?_
              refine q_iast (pc' := 92) ja_M_sets_91 rfl (by decide) (l := 13) rfl (k22 h1 s1 e1 s2 e2 h2 s3 e3 h12 h13 s20 e20 h17 h19) ?_
              intro s30 e30
              refine q_vret ja_M_sets_92 rfl ?_
              show q_W _ _ _ _ 47 [some (.ref 146), some (.int x1), some (.int x2), some (.int x3), some (.int x4), some (.int y0)] [] s30
              refine q_aload_n (pc' := 48) ja_M_acts_47 rfl rfl ?_
              refine q_dup (pc' := 49) ja_M_acts_48 rfl rfl ?_
              refine q_getf (pc' := 52) (v := .int (s30 146 18)) ja_M_acts_49 rfl (by decide) ⟨rfl, by decide⟩ rfl ?_
              refine q_iconst (pc' := 53) ja_M_acts_52 rfl 1 (by decide) ?_
              refine q_iadd (pc' := 54) ja_M_acts_53 rfl ?_
              refine q_putf (pc' := 57) ja_M_acts_54 rfl (by decide) rfl rfl rfl ?_
              intro s31 e31
              refine q_aload_n (pc' := 58) ja_M_acts_57 rfl rfl ?_
              refine q_dup (pc' := 59) ja_M_acts_58 rfl rfl ?_
              refine q_getf (pc' := 62) (v := .int (s31 146 17)) ja_M_acts_59 rfl (by decide) ⟨rfl, by decide⟩ rfl ?_
              refine q_iconst (pc' := 63) ja_M_acts_62 rfl 1 (by decide) ?_
              refine q_iadd (pc' := 64) ja_M_acts_63 rfl ?_
              refine q_putf (pc' := 67) ja_M_acts_64 rfl (by decide) rfl rfl rfl ?_
              intro s32 e32
              refine q_aload_n (pc' := 68) ja_M_acts_67 rfl rfl ?_
              refine q_getf (pc' := 71) (v := .int (s32 146 18)) ja_M_acts_68 rfl (by decide) ⟨rfl, by decide⟩ rfl ?_
              exact q_iret ja_M_acts_71 rfl rfl (k23 h1 s1 e1 s2 e2 h2 s3 e3 h12 h13 s20 e20 h17 h19 s30 e30 s31 e31 s32 e32)
        · intro h20
          refine q_iconst (pc' := 11) ja_M_in_10 rfl 1 (by decide) ?_
          refine q_goto ja_M_in_11 ?_
          refine q_iret ja_M_in_15 rfl (by decide) ?_
          show q_W _ _ _ _ 55 [some (.ref 146), some (.int (s 146 18)), some (.int x1), some (.int x2), some (.int x3), some (.int x4)] [.int 1, .int (s 146 18), .ref 159] s3
          refine q_if_eq (pc' := 58) ja_M_sets_55 rfl (fun h => absurd h ((by decide : ¬ (1 : Int32) = 0))) (fun _ => ?_)
          refine q_iload (pc' := 60) ja_M_sets_58 rfl rfl ?_
          refine q_goto ja_M_sets_60 ?_
          refine q_iast (pc' := 65) ja_M_sets_64 rfl (by decide) (l := 13) rfl (k24 h1 s1 e1 s2 e2 h2 s3 e3 h12 h20) ?_
          intro s33 e33
          refine q_aload_n (pc' := 66) ja_M_sets_65 rfl rfl ?_
          refine q_getf (pc' := 69) (v := .ref 160) ja_M_sets_66 rfl (by decide) ⟨rfl, by decide⟩ rfl ?_
          refine q_iload_n (pc' := 70) ja_M_sets_69 rfl rfl ?_
          refine q_iload_n (pc' := 71) ja_M_sets_70 rfl rfl ?_
          refine q_iconst (pc' := 72) ja_M_sets_71 rfl 2 (by decide) ?_
          refine q_iconst (pc' := 73) ja_M_sets_72 rfl 3 (by decide) ?_
          refine q_stat (pc' := 76) (as := [.int x1, .int 2, .int 3]) (r := [.int (s 146 18), .ref 160]) ja_M_sets_73 rfl (by decide) rfl rfl ?_
          refine q_in (M := jm_M_in) rfl (Nat.le_of_ble_eq_true rfl) (ls := [some (.int x1), some (.int 2), some (.int 3)]) rfl ?_
          refine q_iload_n (pc' := 1) ja_M_in_0 rfl rfl ?_
          refine q_iload_n (pc' := 2) ja_M_in_1 rfl rfl ?_
          refine q_ic_lt (pc' := 5) ja_M_in_2 rfl ?_ ?_
          · intro h21
            refine q_iconst (pc' := 15) ja_M_in_14 rfl 0 (by decide) ?_
            refine q_iret ja_M_in_15 rfl (by decide) ?_
            show q_W _ _ _ _ 76 [some (.ref 146), some (.int (s 146 18)), some (.int x1), some (.int x2), some (.int x3), some (.int x4)] [.int 0, .int (s 146 18), .ref 160] s33
            refine q_if_ne (pc' := 79) ja_M_sets_76 rfl (fun h => absurd ((by decide : (0 : Int32) = 0)) h) (fun _ => ?_)
            refine q_iload_n (pc' := 80) ja_M_sets_79 rfl rfl ?_
            refine q_bipush (pc' := 82) ja_M_sets_80 rfl 6 (by decide) ?_
            refine q_ic_ne (pc' := 85) ja_M_sets_82 rfl ?_ ?_
            · intro h22
              refine q_iconst (pc' := 91) ja_M_sets_90 rfl (-1) (by decide) ?_
              refine q_iast (pc' := 92) ja_M_sets_91 rfl (by decide) (l := 13) rfl (k25 h1 s1 e1 s2 e2 h2 s3 e3 h12 h20 s33 e33 h21 h22) ?_
              intro s34 e34
              refine q_vret ja_M_sets_92 rfl ?_
              show q_W _ _ _ _ 47 [some (.ref 146), some (.int x1), some (.int x2), some (.int x3), some (.int x4), some (.int y0)] [] s34
              refine q_aload_n (pc' := 48) ja_M_acts_47 rfl rfl ?_
              refine q_dup (pc' := 49) ja_M_acts_48 rfl rfl ?_
              refine q_getf (pc' := 52) (v := .int (s34 146 18)) ja_M_acts_49 rfl (by decide) ⟨rfl, by decide⟩ rfl ?_
              refine q_iconst (pc' := 53) ja_M_acts_52 rfl 1 (by decide) ?_
              refine q_iadd (pc' := 54) ja_M_acts_53 rfl ?_
              refine q_putf (pc' := 57) ja_M_acts_54 rfl (by decide) rfl rfl rfl ?_
              intro s35 e35
              refine q_aload_n (pc' := 58) ja_M_acts_57 rfl rfl ?_
              refine q_dup (pc' := 59) ja_M_acts_58 rfl rfl ?_
              refine q_getf (pc' := 62) (v := .int (s35 146 17)) ja_M_acts_59 rfl (by decide) ⟨rfl, by decide⟩ rfl ?_
              refine q_iconst (pc' := 63) ja_M_acts_62 rfl 1 (by decide) ?_
              refine q_iadd (pc' := 64) ja_M_acts_63 rfl ?_
              refine q_putf (pc' := 67) ja_M_acts_64 rfl (by decide) rfl rfl rfl ?_
              intro s36 e36
              refine q_aload_n (pc' := 68) ja_M_acts_67 rfl rfl ?_
              refine q_getf (pc' := 71) (v := .int (s36 146 18)) ja_M_acts_68 rfl (by decide) ⟨rfl, by decide⟩ rfl ?_
              exact q_iret ja_M_acts_71 rfl rfl (k26 h1 s1 e1 s2 e2 h2 s3 e3 h12 h20 s33 e33 h21 h22 s34 e34 s35 e35 s36 e36)
            · intro h23
              refine q_iload (pc' := 87) ja_M_sets_85 rfl rfl ?_
              refine q_goto ja_M_sets_87 ?_
              refine q_iast (pc' := 92) ja_M_sets_91 rfl (by decide) (l := 13) rfl (k27 h1 s1 e1 s2 e2 h2 s3 e3 h12 h20 s33 e33 h21 h23) ?_
              intro s37 e37
              refine q_vret ja_M_sets_92 rfl ?_
              show q_W _ _ _ _ 47 [some (.ref 146), some (.int x1), some (.int x2), some (.int x3), some (.int x4), some (.int y0)] [] s37
              refine q_aload_n (pc' := 48) ja_M_acts_47 rfl rfl ?_
              refine q_dup (pc' := 49) ja_M_acts_48 rfl rfl ?_
              refine q_getf (pc' := 52) (v := .int (s37 146 18)) ja_M_acts_49 rfl (by decide) ⟨rfl, by decide⟩ rfl ?_
              refine q_iconst (pc' := 53) ja_M_acts_52 rfl 1 (by decide) ?_
              refine q_iadd (pc' := 54) ja_M_acts_53 rfl ?_
              refine q_putf (pc' := 57) ja_M_acts_54 rfl (by decide) rfl rfl rfl ?_
              intro s38 e38
              refine q_aload_n (pc' := 58) ja_M_acts_57 rfl rfl ?_
              refine q_dup (pc' := 59) ja_M_acts_58 rfl rfl ?_
              refine q_getf (pc' := 62) (v := .int (s38 146 17)) ja_M_acts_59 rfl (by decide) ⟨rfl, by decide⟩ rfl ?_
              refine q_iconst (pc' := 63) ja_M_acts_62 rfl 1 (by decide) ?_
              refine q_iadd (pc' := 64) ja_M_acts_63 rfl ?_
              refine q_putf (pc' := 67) ja_M_acts_64 rfl (by decide) rfl rfl rfl ?_
              intro s39 e39
              refine q_aload_n (pc' := 68) ja_M_acts_67 rfl rfl ?_
              refine q_getf (pc' := 71) (v := .int (s39 146 18)) ja_M_acts_68 rfl (by decide) ⟨rfl, by decide⟩ rfl ?_
              exact q_iret ja_M_acts_71 rfl rfl (k28 h1 s1 e1 s2 e2 h2 s3 e3 h12 h20 s33 e33 h21 h23 s37 e37 s38 e38 s39 e39)
          · intro h24
            refine q_iload_n (pc' := 6) ja_M_in_5 rfl rfl ?_
            refine q_iload_n (pc' := 7) ja_M_in_6 rfl rfl ?_
            refine q_ic_gt (pc' := 10) ja_M_in_7 rfl (fun h => absurd (h20) h) (fun _ => ?_)
            refine q_iconst (pc' := 11) ja_M_in_10 rfl 1 (by decide) ?_
            refine q_goto ja_M_in_11 ?_
            refine q_iret ja_M_in_15 rfl (by decide) ?_
            show q_W _ _ _ _ 76 [some (.ref 146), some (.int (s 146 18)), some (.int x1), some (.int x2), some (.int x3), some (.int x4)] [.int 1, .int (s 146 18), .ref 160] s33
            refine q_if_ne (pc' := 79) ja_M_sets_76 rfl (fun _ => ?_) (fun h => absurd h ((by decide : ¬ (1 : Int32) = 0)))
            refine q_iload (pc' := 87) ja_M_sets_85 rfl rfl ?_
            refine q_goto ja_M_sets_87 ?_
            refine q_iast (pc' := 92) ja_M_sets_91 rfl (by decide) (l := 13) rfl (k29 h1 s1 e1 s2 e2 h2 s3 e3 h12 h20 s33 e33 h24) ?_
            intro s40 e40
            refine q_vret ja_M_sets_92 rfl ?_
            show q_W _ _ _ _ 47 [some (.ref 146), some (.int x1), some (.int x2), some (.int x3), some (.int x4), some (.int y0)] [] s40
            refine q_aload_n (pc' := 48) ja_M_acts_47 rfl rfl ?_
            refine q_dup (pc' := 49) ja_M_acts_48 rfl rfl ?_
            refine q_getf (pc' := 52) (v := .int (s40 146 18)) ja_M_acts_49 rfl (by decide) ⟨rfl, by decide⟩ rfl ?_
            refine q_iconst (pc' := 53) ja_M_acts_52 rfl 1 (by decide) ?_
            refine q_iadd (pc' := 54) ja_M_acts_53 rfl ?_
            refine q_putf (pc' := 57) ja_M_acts_54 rfl (by decide) rfl rfl rfl ?_
            intro s41 e41
            refine q_aload_n (pc' := 58) ja_M_acts_57 rfl rfl ?_
            refine q_dup (pc' := 59) ja_M_acts_58 rfl rfl ?_
            refine q_getf (pc' := 62) (v := .int (s41 146 17)) ja_M_acts_59 rfl (by decide) ⟨rfl, by decide⟩ rfl ?_
            refine q_iconst (pc' := 63) ja_M_acts_62 rfl 1 (by decide) ?_
            refine q_iadd (pc' := 64) ja_M_acts_63 rfl ?_
            refine q_putf (pc' := 67) ja_M_acts_64 rfl (by decide) rfl rfl rfl ?_
            intro s42 e42
            refine q_aload_n (pc' := 68) ja_M_acts_67 rfl rfl ?_
            refine q_getf (pc' := 71) (v := .int (s42 146 18)) ja_M_acts_68 rfl (by decide) ⟨rfl, by decide⟩ rfl ?_
            exact q_iret ja_M_acts_71 rfl rfl (k30 h1 s1 e1 s2 e2 h2 s3 e3 h12 h20 s33 e33 h24 s40 e40 s41 e41 s42 e42)
    · intro h25
      refine q_iload (pc' := 26) ja_M_sets_24 rfl rfl ?_
      refine q_aload_n (pc' := 27) ja_M_sets_26 rfl rfl ?_
      refine q_getf (pc' := 30) (v := .ref 153) ja_M_sets_27 rfl (by decide) ⟨rfl, by decide⟩ rfl ?_
      refine q_aload_n (pc' := 31) ja_M_sets_30 rfl rfl ?_
      refine q_getf (pc' := 34) (v := .int (s2 146 13)) ja_M_sets_31 rfl (by decide) ⟨rfl, by decide⟩ rfl ?_
      refine q_iald (pc' := 35) (v := .int (s2 153 (s2 146 13).toNatClampNeg)) ja_M_sets_34 rfl (by decide) (l := 8) rfl (k31 h1 s1 e1 s2 e2 h25) rfl ?_
      refine q_ic_ne (pc' := 38) ja_M_sets_35 rfl ?_ ?_
      · intro h26
        refine q_iconst (pc' := 43) ja_M_sets_42 rfl 0 (by decide) ?_
        refine q_bast (pc' := 44) ja_M_sets_43 rfl (by decide) (l := 13) rfl (k32 h1 s1 e1 s2 e2 h25 h26) (by decide) ?_
        intro s43 e43
        refine q_aload_n (pc' := 45) ja_M_sets_44 rfl rfl ?_
        refine q_getf (pc' := 48) (v := .ref 159) ja_M_sets_45 rfl (by decide) ⟨rfl, by decide⟩ rfl ?_
        refine q_iload_n (pc' := 49) ja_M_sets_48 rfl rfl ?_
        refine q_iload_n (pc' := 50) ja_M_sets_49 rfl rfl ?_
        refine q_iconst (pc' := 51) ja_M_sets_50 rfl 1 (by decide) ?_
        refine q_iconst (pc' := 52) ja_M_sets_51 rfl 3 (by decide) ?_
        refine q_stat (pc' := 55) (as := [.int x1, .int 1, .int 3]) (r := [.int (s 146 18), .ref 159]) ja_M_sets_52 rfl (by decide) rfl rfl ?_
        refine q_in (M := jm_M_in) rfl (Nat.le_of_ble_eq_true rfl) (ls := [some (.int x1), some (.int 1), some (.int 3)]) rfl ?_
        refine q_iload_n (pc' := 1) ja_M_in_0 rfl rfl ?_
        refine q_iload_n (pc' := 2) ja_M_in_1 rfl rfl ?_
        refine q_ic_lt (pc' := 5) ja_M_in_2 rfl ?_ ?_
        · intro h27
          refine q_iconst (pc' := 15) ja_M_in_14 rfl 0 (by decide) ?_
          refine q_iret ja_M_in_15 rfl (by decide) ?_
          show q_W _ _ _ _ 55 [some (.ref 146), some (.int (s 146 18)), some (.int x1), some (.int x2), some (.int x3), some (.int x4)] [.int 0, .int (s 146 18), .ref 159] s43
          refine q_if_eq (pc' := 58) ja_M_sets_55 rfl (fun _ => ?_) (fun h => absurd ((by decide : (0 : Int32) = 0)) h)
          refine q_iconst (pc' := 64) ja_M_sets_63 rfl (-1) (by decide) ?_
          refine q_iast (pc' := 65) ja_M_sets_64 rfl (by decide) (l := 13) rfl (k33 h1 s1 e1 s2 e2 h25 h26 s43 e43 h27) ?_
          intro s44 e44
          refine q_aload_n (pc' := 66) ja_M_sets_65 rfl rfl ?_
          refine q_getf (pc' := 69) (v := .ref 160) ja_M_sets_66 rfl (by decide) ⟨rfl, by decide⟩ rfl ?_
          refine q_iload_n (pc' := 70) ja_M_sets_69 rfl rfl ?_
          refine q_iload_n (pc' := 71) ja_M_sets_70 rfl rfl ?_
          refine q_iconst (pc' := 72) ja_M_sets_71 rfl 2 (by decide) ?_
          refine q_iconst (pc' := 73) ja_M_sets_72 rfl 3 (by decide) ?_
          refine q_stat (pc' := 76) (as := [.int x1, .int 2, .int 3]) (r := [.int (s 146 18), .ref 160]) ja_M_sets_73 rfl (by decide) rfl rfl ?_
          refine q_in (M := jm_M_in) rfl (Nat.le_of_ble_eq_true rfl) (ls := [some (.int x1), some (.int 2), some (.int 3)]) rfl ?_
          refine q_iload_n (pc' := 1) ja_M_in_0 rfl rfl ?_
          refine q_iload_n (pc' := 2) ja_M_in_1 rfl rfl ?_
          refine q_ic_lt (pc' := 5) ja_M_in_2 rfl ?_ ?_
          · intro h28
            refine q_iconst (pc' := 15) ja_M_in_14 rfl 0 (by decide) ?_
            refine q_iret ja_M_in_15 rfl (by decide) ?_
            show q_W _ _ _ _ 76 [some (.ref 146), some (.int (s 146 18)), some (.int x1), some (.int x2), some (.int x3), some (.int x4)] [.int 0, .int (s 146 18), .ref 160] s44
            refine q_if_ne (pc' := 79) ja_M_sets_76 rfl (fun h => absurd ((by decide : (0 : Int32) = 0)) h) (fun _ => ?_)
            refine q_iload_n (pc' := 80) ja_M_sets_79 rfl rfl ?_
            refine q_bipush (pc' := 82) ja_M_sets_80 rfl 6 (by decide) ?_
            refine q_ic_ne (pc' := 85) ja_M_sets_82 rfl ?_ ?_
            · intro h29
              refine q_iconst (pc' := 91) ja_M_sets_90 rfl (-1) (by decide) ?_
              refine q_iast (pc' := 92) ja_M_sets_91 rfl (by decide) (l := 13) rfl (k34 h1 s1 e1 s2 e2 h25 h26 s43 e43 h27 s44 e44 h28 h29) ?_
              intro s45 e45
              refine q_vret ja_M_sets_92 rfl ?_
              show q_W _ _ _ _ 47 [some (.ref 146), some (.int x1), some (.int x2), some (.int x3), some (.int x4), some (.int y0)] [] s45
              refine q_aload_n (pc' := 48) ja_M_acts_47 rfl rfl ?_
              refine q_dup (pc' := 49) ja_M_acts_48 rfl rfl ?_
              refine q_getf (pc' := 52) (v := .int (s45 146 18)) ja_M_acts_49 rfl (by decide) ⟨rfl, by decide⟩ rfl ?_
              refine q_iconst (pc' := 53) ja_M_acts_52 rfl 1 (by decide) ?_
              refine q_iadd (pc' := 54) ja_M_acts_53 rfl ?_
              refine q_putf (pc' := 57) ja_M_acts_54 rfl (by decide) rfl rfl rfl ?_
              intro s46 e46
              refine q_aload_n (pc' := 58) ja_M_acts_57 rfl rfl ?_
              refine q_dup (pc' := 59) ja_M_acts_58 rfl rfl ?_
              refine q_getf (pc' := 62) (v := .int (s46 146 17)) ja_M_acts_59 rfl (by decide) ⟨rfl, by decide⟩ rfl ?_
              refine q_iconst (pc' := 63) ja_M_acts_62 rfl 1 (by decide) ?_
              refine q_iadd (pc' := 64) ja_M_acts_63 rfl ?_
              refine q_putf (pc' := 67) ja_M_acts_64 rfl (by decide) rfl rfl rfl ?_
              intro s47 e47
              refine q_aload_n (pc' := 68) ja_M_acts_67 rfl rfl ?_
              refine q_getf (pc' := 71) (v := .int (s47 146 18)) ja_M_acts_68 rfl (by decide) ⟨rfl, by decide⟩ rfl ?_
              exact q_iret ja_M_acts_71 rfl rfl (k35 h1 s1 e1 s2 e2 h25 h26 s43 e43 h27 s44 e44 h28 h29 s45 e45 s46 e46 s47 e47)
            · intro h30
              refine q_iload (pc' := 87) ja_M_sets_85 rfl rfl ?_
              refine q_goto ja_M_sets_87 ?_
              refine q_iast (pc' := 92) ja_M_sets_91 rfl (by decide) (l := 13) rfl (k36 h1 s1 e1 s2 e2 h25 h26 s43 e43 h27 s44 e44 h28 h30) ?_
              intro s48 e48
              refine q_vret ja_M_sets_92 rfl ?_
              show q_W _ _ _ _ 47 [some (.ref 146), some (.int x1), some (.int x2), some (.int x3), some (.int x4), some (.int y0)] [] s48
              refine q_aload_n (pc' := 48) ja_M_acts_47 rfl rfl ?_
              refine q_dup (pc' := 49) ja_M_acts_48 rfl rfl ?_
              refine q_getf (pc' := 52) (v := .int (s48 146 18)) ja_M_acts_49 rfl (by decide) ⟨rfl, by decide⟩ rfl ?_
              refine q_iconst (pc' := 53) ja_M_acts_52 rfl 1 (by decide) ?_
              refine q_iadd (pc' := 54) ja_M_acts_53 rfl ?_
              refine q_putf (pc' := 57) ja_M_acts_54 rfl (by decide) rfl rfl rfl ?_
              intro s49 e49
              refine q_aload_n (pc' := 58) ja_M_acts_57 rfl rfl ?_
              refine q_dup (pc' := 59) ja_M_acts_58 rfl rfl ?_
              refine q_getf (pc' := 62) (v := .int (s49 146 17)) ja_M_acts_59 rfl (by decide) ⟨rfl, by decide⟩ rfl ?_
              refine q_iconst (pc' := 63) ja_M_acts_62 rfl 1 (by decide) ?_
              refine q_iadd (pc' := 64) ja_M_acts_63 rfl ?_
              refine q_putf (pc' := 67) ja_M_acts_64 rfl (by decide) rfl rfl rfl ?_
              intro s50 e50
              refine q_aload_n (pc' := 68) ja_M_acts_67 rfl rfl ?_
              refine q_getf (pc' := 71) (v := .int (s50 146 18)) ja_M_acts_68 rfl (by decide) ⟨rfl, by decide⟩ rfl ?_
              exact q_iret ja_M_acts_71 rfl rfl (k37 h1 s1 e1 s2 e2 h25 h26 s43 e43 h27 s44 e44 h28 h30 s48 e48 s49 e49 s50 e50)
          · intro h31
            refine q_iload_n (pc' := 6) ja_M_in_5 rfl rfl ?_
            refine q_iload_n (pc' := 7) ja_M_in_6 rfl rfl ?_
            refine q_ic_gt (pc' := 10) ja_M_in_7 rfl ?_ ?_
            · intro h32
              refine q_iconst (pc' := 15) ja_M_in_14 rfl 0 (by decide) ?_
              refine q_iret ja_M_in_15 rfl (by decide) ?_
              show q_W _ _ _ _ 76 [some (.ref 146), some (.int (s 146 18)), some (.int x1), some (.int x2), some (.int x3), some (.int x4)] [.int 0, .int (s 146 18), .ref 160] s44
              refine q_if_ne (pc' := 79) ja_M_sets_76 rfl (fun h => absurd ((by decide : (0 : Int32) = 0)) h) (fun _ => ?_)
              refine q_iload_n (pc' := 80) ja_M_sets_79 rfl rfl ?_
              refine q_bipush (pc' := 82) ja_M_sets_80 rfl 6 (by decide) ?_
              refine q_ic_ne (pc' := 85) ja_M_sets_82 rfl ?_ ?_
              · intro h33
                refine q_iconst (pc' := 91) ja_M_sets_90 rfl (-1) (by decide) ?_
                refine q_iast (pc' := 92) ja_M_sets_91 rfl (by decide) (l := 13) rfl (k38 h1 s1 e1 s2 e2 h25 h26 s43 e43 h27 s44 e44 h31 h32 h33) ?_
                intro s51 e51
                refine q_vret ja_M_sets_92 rfl ?_
                show q_W _ _ _ _ 47 [some (.ref 146), some (.int x1), some (.int x2), some (.int x3), some (.int x4), some (.int y0)] [] s51
                refine q_aload_n (pc' := 48) ja_M_acts_47 rfl rfl ?_
                refine q_dup (pc' := 49) ja_M_acts_48 rfl rfl ?_
                refine q_getf (pc' := 52) (v := .int (s51 146 18)) ja_M_acts_49 rfl (by decide) ⟨rfl, by decide⟩ rfl ?_
                refine q_iconst (pc' := 53) ja_M_acts_52 rfl 1 (by decide) ?_
                refine q_iadd (pc' := 54) ja_M_acts_53 rfl ?_
                refine q_putf (pc' := 57) ja_M_acts_54 rfl (by decide) rfl rfl rfl ?_
                intro s52 e52
                refine q_aload_n (pc' := 58) ja_M_acts_57 rfl rfl ?_
                refine q_dup (pc' := 59) ja_M_acts_58 rfl rfl ?_
                refine q_getf (pc' := 62) (v := .int (s52 146 17)) ja_M_acts_59 rfl (by decide) ⟨rfl, by decide⟩ rfl ?_
                refine q_iconst (pc' := 63) ja_M_acts_62 rfl 1 (by decide) ?_
                refine q_iadd (pc' := 64) ja_M_acts_63 rfl ?_
                refine q_putf (pc' := 67) ja_M_acts_64 rfl (by decide) rfl rfl rfl ?_
                intro s53 e53
                refine q_aload_n (pc' := 68) ja_M_acts_67 rfl rfl ?_
                refine q_getf (pc' := 71) (v := .int (s53 146 18)) ja_M_acts_68 rfl (by decide) ⟨rfl, by decide⟩ rfl ?_
                exact q_iret ja_M_acts_71 rfl rfl (k39 h1 s1 e1 s2 e2 h25 h26 s43 e43 h27 s44 e44 h31 h32 h33 s51 e51 s52 e52 s53 e53)
              · intro h34
                refine q_iload (pc' := 87) ja_M_sets_85 rfl rfl ?_
                refine q_goto ja_M_sets_87 ?_
                refine q_iast (pc' := 92) ja_M_sets_91 rfl (by decide) (l := 13) rfl (k40 h1 s1 e1 s2 e2 h25 h26 s43 e43 h27 s44 e44 h31 h32 h34) ?_
                intro s54 e54
                refine q_vret ja_M_sets_92 rfl ?_
                show q_W _ _ _ _ 47 [some (.ref 146), some (.int x1), some (.int x2), some (.int x3), some (.int x4), some (.int y0)] [] s54
                refine q_aload_n (pc' := 48) ja_M_acts_47 rfl rfl ?_
                refine q_dup (pc' := 49) ja_M_acts_48 rfl rfl ?_
                refine q_getf (pc' := 52) (v := .int (s54 146 18)) ja_M_acts_49 rfl (by decide) ⟨rfl, by decide⟩ rfl ?_
                refine q_iconst (pc' := 53) ja_M_acts_52 rfl 1 (by decide) ?_
                refine q_iadd (pc' := 54) ja_M_acts_53 rfl ?_
                refine q_putf (pc' := 57) ja_M_acts_54 rfl (by decide) rfl rfl rfl ?_
                intro s55 e55
                refine q_aload_n (pc' := 58) ja_M_acts_57 rfl rfl ?_
                refine q_dup (pc' := 59) ja_M_acts_58 rfl rfl ?_
                refine q_getf (pc' := 62) (v := .int (s55 146 17)) ja_M_acts_59 rfl (by decide) ⟨rfl, by decide⟩ rfl ?_
                refine q_iconst (pc' := 63) ja_M_acts_62 rfl 1 (by decide) ?_
                refine q_iadd (pc' := 64) ja_M_acts_63 rfl ?_
                refine q_putf (pc' := 67) ja_M_acts_64 rfl (by decide) rfl rfl rfl ?_
                intro s56 e56
                refine q_aload_n (pc' := 68) ja_M_acts_67 rfl rfl ?_
                refine q_getf (pc' := 71) (v := .int (s56 146 18)) ja_M_acts_68 rfl (by decide) ⟨rfl, by decide⟩ rfl ?_
                exact q_iret ja_M_acts_71 rfl rfl (k41 h1 s1 e1 s2 e2 h25 h26 s43 e43 h27 s44 e44 h31 h32 h34 s54 e54 s55 e55 s56 e56)
            · intro h35
              refine q_iconst (pc' := 11) ja_M_in_10 rfl 1 (by decide) ?_
              refine q_goto ja_M_in_11 ?_
              refine q_iret ja_M_in_15 rfl (by decide) ?_
              show q_W _ _ _ _ 76 [some (.ref 146), some (.int (s 146 18)), some (.int x1), some (.int x2), some (.int x3), some (.int x4)] [.int 1, .int (s 146 18), .ref 160] s44
              refine q_if_ne (pc' := 79) ja_M_sets_76 rfl (fun _ => ?_) (fun h => absurd h ((by decide : ¬ (1 : Int32) = 0)))
              refine q_iload (pc' := 87) ja_M_sets_85 rfl rfl ?_
              refine q_goto ja_M_sets_87 ?_
              refine q_iast (pc' := 92) ja_M_sets_91 rfl (by decide) (l := 13) rfl (k42 h1 s1 e1 s2 e2 h25 h26 s43 e43 h27 s44 e44 h31 h35) ?_
              intro s57 e57
              refine q_vret ja_M_sets_92 rfl ?_
              show q_W _ _ _ _ 47 [some (.ref 146), some (.int x1), some (.int x2), some (.int x3), some (.int x4), some (.int y0)] [] s57
              refine q_aload_n (pc' := 48) ja_M_acts_47 rfl rfl ?_
              refine q_dup (pc' := 49) ja_M_acts_48 rfl rfl ?_
              refine q_getf (pc' := 52) (v := .int (s57 146 18)) ja_M_acts_49 rfl (by decide) ⟨rfl, by decide⟩ rfl ?_
              refine q_iconst (pc' := 53) ja_M_acts_52 rfl 1 (by decide) ?_
              refine q_iadd (pc' := 54) ja_M_acts_53 rfl ?_
              refine q_putf (pc' := 57) ja_M_acts_54 rfl (by decide) rfl rfl rfl ?_
              intro s58 e58
              refine q_aload_n (pc' := 58) ja_M_acts_57 rfl rfl ?_
              refine q_dup (pc' := 59) ja_M_acts_58 rfl rfl ?_
              refine q_getf (pc' := 62) (v := .int (s58 146 17)) ja_M_acts_59 rfl (by decide) ⟨rfl, by decide⟩ rfl ?_
              refine q_iconst (pc' := 63) ja_M_acts_62 rfl 1 (by decide) ?_
              refine q_iadd (pc' := 64) ja_M_acts_63 rfl ?_
              refine q_putf (pc' := 67) ja_M_acts_64 rfl (by decide) rfl rfl rfl ?_
              intro s59 e59
              refine q_aload_n (pc' := 68) ja_M_acts_67 rfl rfl ?_
              refine q_getf (pc' := 71) (v := .int (s59 146 18)) ja_M_acts_68 rfl (by decide) ⟨rfl, by decide⟩ rfl ?_
              exact q_iret ja_M_acts_71 rfl rfl (k43 h1 s1 e1 s2 e2 h25 h26 s43 e43 h27 s44 e44 h31 h35 s57 e57 s58 e58 s59 e59)
        · intro h36
          refine q_iload_n (pc' := 6) ja_M_in_5 rfl rfl ?_
          refine q_iload_n (pc' := 7) ja_M_in_6 rfl rfl ?_
          refine q_ic_gt (pc' := 10) ja_M_in_7 rfl ?_ ?_
          · intro h37
            refine q_iconst (pc' := 15) ja_M_in_14 rfl 0 (by decide) ?_
            refine q_iret ja_M_in_15 rfl (by decide) ?_
            show q_W _ _ _ _ 55 [some (.ref 146), some (.int (s 146 18)), some (.int x1), some (.int x2), some (.int x3), some (.int x4)] [.int 0, .int (s 146 18), .ref 159] s43
            refine q_if_eq (pc' := 58) ja_M_sets_55 rfl (fun _ => ?_) (fun h => absurd ((by decide : (0 : Int32) = 0)) h)
            refine q_iconst (pc' := 64) ja_M_sets_63 rfl (-1) (by decide) ?_
            refine q_iast (pc' := 65) ja_M_sets_64 rfl (by decide) (l := 13) rfl (k44 h1 s1 e1 s2 e2 h25 h26 s43 e43 h36 h37) ?_
            intro s60 e60
            refine q_aload_n (pc' := 66) ja_M_sets_65 rfl rfl ?_
            refine q_getf (pc' := 69) (v := .ref 160) ja_M_sets_66 rfl (by decide) ⟨rfl, by decide⟩ rfl ?_
            refine q_iload_n (pc' := 70) ja_M_sets_69 rfl rfl ?_
            refine q_iload_n (pc' := 71) ja_M_sets_70 rfl rfl ?_
            refine q_iconst (pc' := 72) ja_M_sets_71 rfl 2 (by decide) ?_
            refine q_iconst (pc' := 73) ja_M_sets_72 rfl 3 (by decide) ?_
            refine q_stat (pc' := 76) (as := [.int x1, .int 2, .int 3]) (r := [.int (s 146 18), .ref 160]) ja_M_sets_73 rfl (by decide) rfl rfl ?_
            refine q_in (M := jm_M_in) rfl (Nat.le_of_ble_eq_true rfl) (ls := [some (.int x1), some (.int 2), some (.int 3)]) rfl ?_
            refine q_iload_n (pc' := 1) ja_M_in_0 rfl rfl ?_
            refine q_iload_n (pc' := 2) ja_M_in_1 rfl rfl ?_
            refine q_ic_lt (pc' := 5) ja_M_in_2 rfl ?_ ?_
            · intro h38
              refine q_iconst (pc' := 15) ja_M_in_14 rfl 0 (by decide) ?_
              refine q_iret ja_M_in_15 rfl (by decide) ?_
              show q_W _ _ _ _ 76 [some (.ref 146), some (.int (s 146 18)), some (.int x1), some (.int x2), some (.int x3), some (.int x4)] [.int 0, .int (s 146 18), .ref 160] s60
              refine q_if_ne (pc' := 79) ja_M_sets_76 rfl (fun h => absurd ((by decide : (0 : Int32) = 0)) h) (fun _ => ?_)
              refine q_iload_n (pc' := 80) ja_M_sets_79 rfl rfl ?_
              refine q_bipush (pc' := 82) ja_M_sets_80 rfl 6 (by decide) ?_
              refine q_ic_ne (pc' := 85) ja_M_sets_82 rfl ?_ ?_
              · intro h39
                refine q_iconst (pc' := 91) ja_M_sets_90 rfl (-1) (by decide) ?_
                refine q_iast (pc' := 92) ja_M_sets_91 rfl (by decide) (l := 13) rfl (k45 h1 s1 e1 s2 e2 h25 h26 s43 e43 h36 h37 s60 e60 h38 h39) ?_
                intro s61 e61
                refine q_vret ja_M_sets_92 rfl ?_
                show q_W _ _ _ _ 47 [some (.ref 146), some (.int x1), some (.int x2), some (.int x3), some (.int x4), some (.int y0)] [] s61
                refine q_aload_n (pc' := 48) ja_M_acts_47 rfl rfl ?_
                refine q_dup (pc' := 49) ja_M_acts_48 rfl rfl ?_
                refine q_getf (pc' := 52) (v := .int (s61 146 18)) ja_M_acts_49 rfl (by decide) ⟨rfl, by decide⟩ rfl ?_
                refine q_iconst (pc' := 53) ja_M_acts_52 rfl 1 (by decide) ?_
                refine q_iadd (pc' := 54) ja_M_acts_53 rfl ?_
                refine q_putf (pc' := 57) ja_M_acts_54 rfl (by decide) rfl rfl rfl ?_
                intro s62 e62
                refine q_aload_n (pc' := 58) ja_M_acts_57 rfl rfl ?_
                refine q_dup (pc' := 59) ja_M_acts_58 rfl rfl ?_
                refine q_getf (pc' := 62) (v := .int (s62 146 17)) ja_M_acts_59 rfl (by decide) ⟨rfl, by decide⟩ rfl ?_
                refine q_iconst (pc' := 63) ja_M_acts_62 rfl 1 (by decide) ?_
                refine q_iadd (pc' := 64) ja_M_acts_63 rfl ?_
                refine q_putf (pc' := 67) ja_M_acts_64 rfl (by decide) rfl rfl rfl ?_
                intro s63 e63
                refine q_aload_n (pc' := 68) ja_M_acts_67 rfl rfl ?_
                refine q_getf (pc' := 71) (v := .int (s63 146 18)) ja_M_acts_68 rfl (by decide) ⟨rfl, by decide⟩ rfl ?_
                exact q_iret ja_M_acts_71 rfl rfl (k46 h1 s1 e1 s2 e2 h25 h26 s43 e43 h36 h37 s60 e60 h38 h39 s61 e61 s62 e62 s63 e63)
              · intro h40
                refine q_iload (pc' := 87) ja_M_sets_85 rfl rfl ?_
                refine q_goto ja_M_sets_87 ?_
                refine q_iast (pc' := 92) ja_M_sets_91 rfl (by decide) (l := 13) rfl (k47 h1 s1 e1 s2 e2 h25 h26 s43 e43 h36 h37 s60 e60 h38 h40) ?_
                intro s64 e64
                refine q_vret ja_M_sets_92 rfl ?_
                show q_W _ _ _ _ 47 [some (.ref 146), some (.int x1), some (.int x2), some (.int x3), some (.int x4), some (.int y0)] [] s64
                refine q_aload_n (pc' := 48) ja_M_acts_47 rfl rfl ?_
                refine q_dup (pc' := 49) ja_M_acts_48 rfl rfl ?_
                refine q_getf (pc' := 52) (v := .int (s64 146 18)) ja_M_acts_49 rfl (by decide) ⟨rfl, by decide⟩ rfl ?_
                refine q_iconst (pc' := 53) ja_M_acts_52 rfl 1 (by decide) ?_
                refine q_iadd (pc' := 54) ja_M_acts_53 rfl ?_
                refine q_putf (pc' := 57) ja_M_acts_54 rfl (by decide) rfl rfl rfl ?_
                intro s65 e65
                refine q_aload_n (pc' := 58) ja_M_acts_57 rfl rfl ?_
                refine q_dup (pc' := 59) ja_M_acts_58 rfl rfl ?_
                refine q_getf (pc' := 62) (v := .int (s65 146 17)) ja_M_acts_59 rfl (by decide) ⟨rfl, by decide⟩ rfl ?_
                refine q_iconst (pc' := 63) ja_M_acts_62 rfl 1 (by decide) ?_
                refine q_iadd (pc' := 64) ja_M_acts_63 rfl ?_
                refine q_putf (pc' := 67) ja_M_acts_64 rfl (by decide) rfl rfl rfl ?_
                intro s66 e66
                refine q_aload_n (pc' := 68) ja_M_acts_67 rfl rfl ?_
                refine q_getf (pc' := 71) (v := .int (s66 146 18)) ja_M_acts_68 rfl (by decide) ⟨rfl, by decide⟩ rfl ?_
                exact q_iret ja_M_acts_71 rfl rfl (k48 h1 s1 e1 s2 e2 h25 h26 s43 e43 h36 h37 s60 e60 h38 h40 s64 e64 s65 e65 s66 e66)
            · intro h41
              refine q_iload_n (pc' := 6) ja_M_in_5 rfl rfl ?_
              refine q_iload_n (pc' := 7) ja_M_in_6 rfl rfl ?_
              refine q_ic_gt (pc' := 10) ja_M_in_7 rfl (fun _ => ?_) (fun h => absurd h (h37))
              refine q_iconst (pc' := 15) ja_M_in_14 rfl 0 (by decide) ?_
              refine q_iret ja_M_in_15 rfl (by decide) ?_
              show q_W _ _ _ _ 76 [some (.ref 146), some (.int (s 146 18)), some (.int x1), some (.int x2), some (.int x3), some (.int x4)] [.int 0, .int (s 146 18), .ref 160] s60
              refine q_if_ne (pc' := 79) ja_M_sets_76 rfl (fun h => absurd ((by decide : (0 : Int32) = 0)) h) (fun _ => ?_)
              refine q_iload_n (pc' := 80) ja_M_sets_79 rfl rfl ?_
              refine q_bipush (pc' := 82) ja_M_sets_80 rfl 6 (by decide) ?_
              refine q_ic_ne (pc' := 85) ja_M_sets_82 rfl ?_ ?_
              · intro h42
                refine q_iconst (pc' := 91) ja_M_sets_90 rfl (-1) (by decide) ?_
                refine q_iast (pc' := 92) ja_M_sets_91 rfl (by decide) (l := 13) rfl (k49 h1 s1 e1 s2 e2 h25 h26 s43 e43 h36 h37 s60 e60 h41 h42) ?_
                intro s67 e67
                refine q_vret ja_M_sets_92 rfl ?_
                show q_W _ _ _ _ 47 [some (.ref 146), some (.int x1), some (.int x2), some (.int x3), some (.int x4), some (.int y0)] [] s67
                refine q_aload_n (pc' := 48) ja_M_acts_47 rfl rfl ?_
                refine q_dup (pc' := 49) ja_M_acts_48 rfl rfl ?_
                refine q_getf (pc' := 52) (v := .int (s67 146 18)) ja_M_acts_49 rfl (by decide) ⟨rfl, by decide⟩ rfl ?_
                refine q_iconst (pc' := 53) ja_M_acts_52 rfl 1 (by decide) ?_
                refine q_iadd (pc' := 54) ja_M_acts_53 rfl ?_
                refine q_putf (pc' := 57) ja_M_acts_54 rfl (by decide) rfl rfl rfl ?_
                intro s68 e68
                refine q_aload_n (pc' := 58) ja_M_acts_57 rfl rfl ?_
                refine q_dup (pc' := 59) ja_M_acts_58 rfl rfl ?_
                refine q_getf (pc' := 62) (v := .int (s68 146 17)) ja_M_acts_59 rfl (by decide) ⟨rfl, by decide⟩ rfl ?_
                refine q_iconst (pc' := 63) ja_M_acts_62 rfl 1 (by decide) ?_
                refine q_iadd (pc' := 64) ja_M_acts_63 rfl ?_
                refine q_putf (pc' := 67) ja_M_acts_64 rfl (by decide) rfl rfl rfl ?_
                intro s69 e69
                refine q_aload_n (pc' := 68) ja_M_acts_67 rfl rfl ?_
                refine q_getf (pc' := 71) (v := .int (s69 146 18)) ja_M_acts_68 rfl (by decide) ⟨rfl, by decide⟩ rfl ?_
                exact q_iret ja_M_acts_71 rfl rfl (k50 h1 s1 e1 s2 e2 h25 h26 s43 e43 h36 h37 s60 e60 h41 h42 s67 e67 s68 e68 s69 e69)
              · intro h43
                refine q_iload (pc' := 87) ja_M_sets_85 rfl rfl ?_
                refine q_goto ja_M_sets_87 ?_
                refine q_iast (pc' := 92) ja_M_sets_91 rfl (by decide) (l := 13) rfl (k51 h1 s1 e1 s2 e2 h25 h26 s43 e43 h36 h37 s60 e60 h41 h43) ?_
                intro s70 e70
                refine q_vret ja_M_sets_92 rfl ?_
                show q_W _ _ _ _ 47 [some (.ref 146), some (.int x1), some (.int x2), some (.int x3), some (.int x4), some (.int y0)] [] s70
                refine q_aload_n (pc' := 48) ja_M_acts_47 rfl rfl ?_
                refine q_dup (pc' := 49) ja_M_acts_48 rfl rfl ?_
                refine q_getf (pc' := 52) (v := .int (s70 146 18)) ja_M_acts_49 rfl (by decide) ⟨rfl, by decide⟩ rfl ?_
                refine q_iconst (pc' := 53) ja_M_acts_52 rfl 1 (by decide) ?_
                refine q_iadd (pc' := 54) ja_M_acts_53 rfl ?_
                refine q_putf (pc' := 57) ja_M_acts_54 rfl (by decide) rfl rfl rfl ?_
                intro s71 e71
                refine q_aload_n (pc' := 58) ja_M_acts_57 rfl rfl ?_
                refine q_dup (pc' := 59) ja_M_acts_58 rfl rfl ?_
                refine q_getf (pc' := 62) (v := .int (s71 146 17)) ja_M_acts_59 rfl (by decide) ⟨rfl, by decide⟩ rfl ?_
                refine q_iconst (pc' := 63) ja_M_acts_62 rfl 1 (by decide) ?_
                refine q_iadd (pc' := 64) ja_M_acts_63 rfl ?_
                refine q_putf (pc' := 67) ja_M_acts_64 rfl (by decide) rfl rfl rfl ?_
                intro s72 e72
                refine q_aload_n (pc' := 68) ja_M_acts_67 rfl rfl ?_
                refine q_getf (pc' := 71) (v := .int (s72 146 18)) ja_M_acts_68 rfl (by decide) ⟨rfl, by decide⟩ rfl ?_
                exact q_iret ja_M_acts_71 rfl rfl (k52 h1 s1 e1 s2 e2 h25 h26 s43 e43 h36 h37 s60 e60 h41 h43 s70 e70 s71 e71 s72 e72)
          · intro h44
            refine q_iconst (pc' := 11) ja_M_in_10 rfl 1 (by decide) ?_
            refine q_goto ja_M_in_11 ?_
            refine q_iret ja_M_in_15 rfl (by decide) ?_
            show q_W _ _ _ _ 55 [some (.ref 146), some (.int (s 146 18)), some (.int x1), some (.int x2), some (.int x3), some (.int x4)] [.int 1, .int (s 146 18), .ref 159] s43
            refine q_if_eq (pc' := 58) ja_M_sets_55 rfl (fun h => absurd h ((by decide : ¬ (1 : Int32) = 0))) (fun _ => ?_)
            refine q_iload (pc' := 60) ja_M_sets_58 rfl rfl ?_
            refine q_goto ja_M_sets_60 ?_
            refine q_iast (pc' := 65) ja_M_sets_64 rfl (by decide) (l := 13) rfl (k53 h1 s1 e1 s2 e2 h25 h26 s43 e43 h36 h44) ?_
            intro s73 e73
            refine q_aload_n (pc' := 66) ja_M_sets_65 rfl rfl ?_
            refine q_getf (pc' := 69) (v := .ref 160) ja_M_sets_66 rfl (by decide) ⟨rfl, by decide⟩ rfl ?_
            refine q_iload_n (pc' := 70) ja_M_sets_69 rfl rfl ?_
            refine q_iload_n (pc' := 71) ja_M_sets_70 rfl rfl ?_
            refine q_iconst (pc' := 72) ja_M_sets_71 rfl 2 (by decide) ?_
            refine q_iconst (pc' := 73) ja_M_sets_72 rfl 3 (by decide) ?_
            refine q_stat (pc' := 76) (as := [.int x1, .int 2, .int 3]) (r := [.int (s 146 18), .ref 160]) ja_M_sets_73 rfl (by decide) rfl rfl ?_
            refine q_in (M := jm_M_in) rfl (Nat.le_of_ble_eq_true rfl) (ls := [some (.int x1), some (.int 2), some (.int 3)]) rfl ?_
            refine q_iload_n (pc' := 1) ja_M_in_0 rfl rfl ?_
            refine q_iload_n (pc' := 2) ja_M_in_1 rfl rfl ?_
            refine q_ic_lt (pc' := 5) ja_M_in_2 rfl ?_ ?_
            · intro h45
              refine q_iconst (pc' := 15) ja_M_in_14 rfl 0 (by decide) ?_
              refine q_iret ja_M_in_15 rfl (by decide) ?_
              show q_W _ _ _ _ 76 [some (.ref 146), some (.int (s 146 18)), some (.int x1), some (.int x2), some (.int x3), some (.int x4)] [.int 0, .int (s 146 18), .ref 160] s73
              refine q_if_ne (pc' := 79) ja_M_sets_76 rfl (fun h => absurd ((by decide : (0 : Int32) = 0)) h) (fun _ => ?_)
              refine q_iload_n (pc' := 80) ja_M_sets_79 rfl rfl ?_
              refine q_bipush (pc' := 82) ja_M_sets_80 rfl 6 (by decide) ?_
              refine q_ic_ne (pc' := 85) ja_M_sets_82 rfl ?_ ?_
              · intro h46
                refine q_iconst (pc' := 91) ja_M_sets_90 rfl (-1) (by decide) ?_
                refine q_iast (pc' := 92) ja_M_sets_91 rfl (by decide) (l := 13) rfl (k54 h1 s1 e1 s2 e2 h25 h26 s43 e43 h36 h44 s73 e73 h45 h46) ?_
                intro s74 e74
                refine q_vret ja_M_sets_92 rfl ?_
                show q_W _ _ _ _ 47 [some (.ref 146), some (.int x1), some (.int x2), some (.int x3), some (.int x4), some (.int y0)] [] s74
                refine q_aload_n (pc' := 48) ja_M_acts_47 rfl rfl ?_
                refine q_dup (pc' := 49) ja_M_acts_48 rfl rfl ?_
                refine q_getf (pc' := 52) (v := .int (s74 146 18)) ja_M_acts_49 rfl (by decide) ⟨rfl, by decide⟩ rfl ?_
                refine q_iconst (pc' := 53) ja_M_acts_52 rfl 1 (by decide) ?_
                refine q_iadd (pc' := 54) ja_M_acts_53 rfl ?_
                refine q_putf (pc' := 57) ja_M_acts_54 rfl (by decide) rfl rfl rfl ?_
                intro s75 e75
                refine q_aload_n (pc' := 58) ja_M_acts_57 rfl rfl ?_
                refine q_dup (pc' := 59) ja_M_acts_58 rfl rfl ?_
                refine q_getf (pc' := 62) (v := .int (s75 146 17)) ja_M_acts_59 rfl (by decide) ⟨rfl, by decide⟩ rfl ?_
                refine q_iconst (pc' := 63) ja_M_acts_62 rfl 1 (by decide) ?_
                refine q_iadd (pc' := 64) ja_M_acts_63 rfl ?_
                refine q_putf (pc' := 67) ja_M_acts_64 rfl (by decide) rfl rfl rfl ?_
                intro s76 e76
                refine q_aload_n (pc' := 68) ja_M_acts_67 rfl rfl ?_
                refine q_getf (pc' := 71) (v := .int (s76 146 18)) ja_M_acts_68 rfl (by decide) ⟨rfl, by decide⟩ rfl ?_
                exact q_iret ja_M_acts_71 rfl rfl (k55 h1 s1 e1 s2 e2 h25 h26 s43 e43 h36 h44 s73 e73 h45 h46 s74 e74 s75 e75 s76 e76)
              · intro h47
                refine q_iload (pc' := 87) ja_M_sets_85 rfl rfl ?_
                refine q_goto ja_M_sets_87 ?_
                refine q_iast (pc' := 92) ja_M_sets_91 rfl (by decide) (l := 13) rfl (k56 h1 s1 e1 s2 e2 h25 h26 s43 e43 h36 h44 s73 e73 h45 h47) ?_
                intro s77 e77
                refine q_vret ja_M_sets_92 rfl ?_
                show q_W _ _ _ _ 47 [some (.ref 146), some (.int x1), some (.int x2), some (.int x3), some (.int x4), some (.int y0)] [] s77
                refine q_aload_n (pc' := 48) ja_M_acts_47 rfl rfl ?_
                refine q_dup (pc' := 49) ja_M_acts_48 rfl rfl ?_
                refine q_getf (pc' := 52) (v := .int (s77 146 18)) ja_M_acts_49 rfl (by decide) ⟨rfl, by decide⟩ rfl ?_
                refine q_iconst (pc' := 53) ja_M_acts_52 rfl 1 (by decide) ?_
                refine q_iadd (pc' := 54) ja_M_acts_53 rfl ?_
                refine q_putf (pc' := 57) ja_M_acts_54 rfl (by decide) rfl rfl rfl ?_
                intro s78 e78
                refine q_aload_n (pc' := 58) ja_M_acts_57 rfl rfl ?_
                refine q_dup (pc' := 59) ja_M_acts_58 rfl rfl ?_
                refine q_getf (pc' := 62) (v := .int (s78 146 17)) ja_M_acts_59 rfl (by decide) ⟨rfl, by decide⟩ rfl ?_
                refine q_iconst (pc' := 63) ja_M_acts_62 rfl 1 (by decide) ?_
                refine q_iadd (pc' := 64) ja_M_acts_63 rfl ?_
                refine q_putf (pc' := 67) ja_M_acts_64 rfl (by decide) rfl rfl rfl ?_
                intro s79 e79
                refine q_aload_n (pc' := 68) ja_M_acts_67 rfl rfl ?_
                refine q_getf (pc' := 71) (v := .int (s79 146 18)) ja_M_acts_68 rfl (by decide) ⟨rfl, by decide⟩ rfl ?_
                exact q_iret ja_M_acts_71 rfl rfl (k57 h1 s1 e1 s2 e2 h25 h26 s43 e43 h36 h44 s73 e73 h45 h47 s77 e77 s78 e78 s79 e79)
            · intro h48
              refine q_iload_n (pc' := 6) ja_M_in_5 rfl rfl ?_
              refine q_iload_n (pc' := 7) ja_M_in_6 rfl rfl ?_
              refine q_ic_gt (pc' := 10) ja_M_in_7 rfl (fun h => absurd (h44) h) (fun _ => ?_)
              refine q_iconst (pc' := 11) ja_M_in_10 rfl 1 (by decide) ?_
              refine q_goto ja_M_in_11 ?_
              refine q_iret ja_M_in_15 rfl (by decide) ?_
              show q_W _ _ _ _ 76 [some (.ref 146), some (.int (s 146 18)), some (.int x1), some (.int x2), some (.int x3), some (.int x4)] [.int 1, .int (s 146 18), .ref 160] s73
              refine q_if_ne (pc' := 79) ja_M_sets_76 rfl (fun _ => ?_) (fun h => absurd h ((by decide : ¬ (1 : Int32) = 0)))
              refine q_iload (pc' := 87) ja_M_sets_85 rfl rfl ?_
              refine q_goto ja_M_sets_87 ?_
              refine q_iast (pc' := 92) ja_M_sets_91 rfl (by decide) (l := 13) rfl (k58 h1 s1 e1 s2 e2 h25 h26 s43 e43 h36 h44 s73 e73 h48) ?_
              intro s80 e80
              refine q_vret ja_M_sets_92 rfl ?_
              show q_W _ _ _ _ 47 [some (.ref 146), some (.int x1), some (.int x2), some (.int x3), some (.int x4), some (.int y0)] [] s80
              refine q_aload_n (pc' := 48) ja_M_acts_47 rfl rfl ?_
              refine q_dup (pc' := 49) ja_M_acts_48 rfl rfl ?_
              refine q_getf (pc' := 52) (v := .int (s80 146 18)) ja_M_acts_49 rfl (by decide) ⟨rfl, by decide⟩ rfl ?_
              refine q_iconst (pc' := 53) ja_M_acts_52 rfl 1 (by decide) ?_
              refine q_iadd (pc' := 54) ja_M_acts_53 rfl ?_
              refine q_putf (pc' := 57) ja_M_acts_54 rfl (by decide) rfl rfl rfl ?_
              intro s81 e81
              refine q_aload_n (pc' := 58) ja_M_acts_57 rfl rfl ?_
              refine q_dup (pc' := 59) ja_M_acts_58 rfl rfl ?_
              refine q_getf (pc' := 62) (v := .int (s81 146 17)) ja_M_acts_59 rfl (by decide) ⟨rfl, by decide⟩ rfl ?_
              refine q_iconst (pc' := 63) ja_M_acts_62 rfl 1 (by decide) ?_
              refine q_iadd (pc' := 64) ja_M_acts_63 rfl ?_
              refine q_putf (pc' := 67) ja_M_acts_64 rfl (by decide) rfl rfl rfl ?_
              intro s82 e82
              refine q_aload_n (pc' := 68) ja_M_acts_67 rfl rfl ?_
              refine q_getf (pc' := 71) (v := .int (s82 146 18)) ja_M_acts_68 rfl (by decide) ⟨rfl, by decide⟩ rfl ?_
              exact q_iret ja_M_acts_71 rfl rfl (k59 h1 s1 e1 s2 e2 h25 h26 s43 e43 h36 h44 s73 e73 h48 s80 e80 s81 e81 s82 e82)
      · intro h49
        refine q_iconst (pc' := 39) ja_M_sets_38 rfl 1 (by decide) ?_
        refine q_goto ja_M_sets_39 ?_
        refine q_bast (pc' := 44) ja_M_sets_43 rfl (by decide) (l := 13) rfl (k60 h1 s1 e1 s2 e2 h25 h49) (by decide) ?_
        intro s83 e83
        refine q_aload_n (pc' := 45) ja_M_sets_44 rfl rfl ?_
        refine q_getf (pc' := 48) (v := .ref 159) ja_M_sets_45 rfl (by decide) ⟨rfl, by decide⟩ rfl ?_
        refine q_iload_n (pc' := 49) ja_M_sets_48 rfl rfl ?_
        refine q_iload_n (pc' := 50) ja_M_sets_49 rfl rfl ?_
        refine q_iconst (pc' := 51) ja_M_sets_50 rfl 1 (by decide) ?_
        refine q_iconst (pc' := 52) ja_M_sets_51 rfl 3 (by decide) ?_
        refine q_stat (pc' := 55) (as := [.int x1, .int 1, .int 3]) (r := [.int (s 146 18), .ref 159]) ja_M_sets_52 rfl (by decide) rfl rfl ?_
        refine q_in (M := jm_M_in) rfl (Nat.le_of_ble_eq_true rfl) (ls := [some (.int x1), some (.int 1), some (.int 3)]) rfl ?_
        refine q_iload_n (pc' := 1) ja_M_in_0 rfl rfl ?_
        refine q_iload_n (pc' := 2) ja_M_in_1 rfl rfl ?_
        refine q_ic_lt (pc' := 5) ja_M_in_2 rfl ?_ ?_
        · intro h50
          refine q_iconst (pc' := 15) ja_M_in_14 rfl 0 (by decide) ?_
          refine q_iret ja_M_in_15 rfl (by decide) ?_
          show q_W _ _ _ _ 55 [some (.ref 146), some (.int (s 146 18)), some (.int x1), some (.int x2), some (.int x3), some (.int x4)] [.int 0, .int (s 146 18), .ref 159] s83
          refine q_if_eq (pc' := 58) ja_M_sets_55 rfl (fun _ => ?_) (fun h => absurd ((by decide : (0 : Int32) = 0)) h)
          refine q_iconst (pc' := 64) ja_M_sets_63 rfl (-1) (by decide) ?_
          refine q_iast (pc' := 65) ja_M_sets_64 rfl (by decide) (l := 13) rfl (k61 h1 s1 e1 s2 e2 h25 h49 s83 e83 h50) ?_
          intro s84 e84
          refine q_aload_n (pc' := 66) ja_M_sets_65 rfl rfl ?_
          refine q_getf (pc' := 69) (v := .ref 160) ja_M_sets_66 rfl (by decide) ⟨rfl, by decide⟩ rfl ?_
          refine q_iload_n (pc' := 70) ja_M_sets_69 rfl rfl ?_
          refine q_iload_n (pc' := 71) ja_M_sets_70 rfl rfl ?_
          refine q_iconst (pc' := 72) ja_M_sets_71 rfl 2 (by decide) ?_
          refine q_iconst (pc' := 73) ja_M_sets_72 rfl 3 (by decide) ?_
          refine q_stat (pc' := 76) (as := [.int x1, .int 2, .int 3]) (r := [.int (s 146 18), .ref 160]) ja_M_sets_73 rfl (by decide) rfl rfl ?_
          refine q_in (M := jm_M_in) rfl (Nat.le_of_ble_eq_true rfl) (ls := [some (.int x1), some (.int 2), some (.int 3)]) rfl ?_
          refine q_iload_n (pc' := 1) ja_M_in_0 rfl rfl ?_
          refine q_iload_n (pc' := 2) ja_M_in_1 rfl rfl ?_
          refine q_ic_lt (pc' := 5) ja_M_in_2 rfl ?_ ?_
          · intro h51
            refine q_iconst (pc' := 15) ja_M_in_14 rfl 0 (by decide) ?_
            refine q_iret ja_M_in_15 rfl (by decide) ?_
            show q_W _ _ _ _ 76 [some (.ref 146), some (.int (s 146 18)), some (.int x1), some (.int x2), some (.int x3), some (.int x4)] [.int 0, .int (s 146 18), .ref 160] s84
            refine q_if_ne (pc' := 79) ja_M_sets_76 rfl (fun h => absurd ((by decide : (0 : Int32) = 0)) h) (fun _ => ?_)
            refine q_iload_n (pc' := 80) ja_M_sets_79 rfl rfl ?_
            refine q_bipush (pc' := 82) ja_M_sets_80 rfl 6 (by decide) ?_
            refine q_ic_ne (pc' := 85) ja_M_sets_82 rfl ?_ ?_
            · intro h52
              refine q_iconst (pc' := 91) ja_M_sets_90 rfl (-1) (by decide) ?_
              refine q_iast (pc' := 92) ja_M_sets_91 rfl (by decide) (l := 13) rfl (k62 h1 s1 e1 s2 e2 h25 h49 s83 e83 h50 s84 e84 h51 h52) ?_
              intro s85 e85
              refine q_vret ja_M_sets_92 rfl ?_
              show q_W _ _ _ _ 47 [some (.ref 146), some (.int x1), some (.int x2), some (.int x3), some (.int x4), some (.int y0)] [] s85
              refine q_aload_n (pc' := 48) ja_M_acts_47 rfl rfl ?_
              refine q_dup (pc' := 49) ja_M_acts_48 rfl rfl ?_
              refine q_getf (pc' := 52) (v := .int (s85 146 18)) ja_M_acts_49 rfl (by decide) ⟨rfl, by decide⟩ rfl ?_
              refine q_iconst (pc' := 53) ja_M_acts_52 rfl 1 (by decide) ?_
              refine q_iadd (pc' := 54) ja_M_acts_53 rfl ?_
              refine q_putf (pc' := 57) ja_M_acts_54 rfl (by decide) rfl rfl rfl ?_
              intro s86 e86
              refine q_aload_n (pc' := 58) ja_M_acts_57 rfl rfl ?_
              refine q_dup (pc' := 59) ja_M_acts_58 rfl rfl ?_
              refine q_getf (pc' := 62) (v := .int (s86 146 17)) ja_M_acts_59 rfl (by decide) ⟨rfl, by decide⟩ rfl ?_
              refine q_iconst (pc' := 63) ja_M_acts_62 rfl 1 (by decide) ?_
              refine q_iadd (pc' := 64) ja_M_acts_63 rfl ?_
              refine q_putf (pc' := 67) ja_M_acts_64 rfl (by decide) rfl rfl rfl ?_
              intro s87 e87
              refine q_aload_n (pc' := 68) ja_M_acts_67 rfl rfl ?_
              refine q_getf (pc' := 71) (v := .int (s87 146 18)) ja_M_acts_68 rfl (by decide) ⟨rfl, by decide⟩ rfl ?_
              exact q_iret ja_M_acts_71 rfl rfl (k63 h1 s1 e1 s2 e2 h25 h49 s83 e83 h50 s84 e84 h51 h52 s85 e85 s86 e86 s87 e87)
            · intro h53
              refine q_iload (pc' := 87) ja_M_sets_85 rfl rfl ?_
              refine q_goto ja_M_sets_87 ?_
              refine q_iast (pc' := 92) ja_M_sets_91 rfl (by decide) (l := 13) rfl (k64 h1 s1 e1 s2 e2 h25 h49 s83 e83 h50 s84 e84 h51 h53) ?_
              intro s88 e88
              refine q_vret ja_M_sets_92 rfl ?_
              show q_W _ _ _ _ 47 [some (.ref 146), some (.int x1), some (.int x2), some (.int x3), some (.int x4), some (.int y0)] [] s88
              refine q_aload_n (pc' := 48) ja_M_acts_47 rfl rfl ?_
              refine q_dup (pc' := 49) ja_M_acts_48 rfl rfl ?_
              refine q_getf (pc' := 52) (v := .int (s88 146 18)) ja_M_acts_49 rfl (by decide) ⟨rfl, by decide⟩ rfl ?_
              refine q_iconst (pc' := 53) ja_M_acts_52 rfl 1 (by decide) ?_
              refine q_iadd (pc' := 54) ja_M_acts_53 rfl ?_
              refine q_putf (pc' := 57) ja_M_acts_54 rfl (by decide) rfl rfl rfl ?_
              intro s89 e89
              refine q_aload_n (pc' := 58) ja_M_acts_57 rfl rfl ?_
              refine q_dup (pc' := 59) ja_M_acts_58 rfl rfl ?_
              refine q_getf (pc' := 62) (v := .int (s89 146 17)) ja_M_acts_59 rfl (by decide) ⟨rfl, by decide⟩ rfl ?_
              refine q_iconst (pc' := 63) ja_M_acts_62 rfl 1 (by decide) ?_
              refine q_iadd (pc' := 64) ja_M_acts_63 rfl ?_
              refine q_putf (pc' := 67) ja_M_acts_64 rfl (by decide) rfl rfl rfl ?_
              intro s90 e90
              refine q_aload_n (pc' := 68) ja_M_acts_67 rfl rfl ?_
              refine q_getf (pc' := 71) (v := .int (s90 146 18)) ja_M_acts_68 rfl (by decide) ⟨rfl, by decide⟩ rfl ?_
              exact q_iret ja_M_acts_71 rfl rfl (k65 h1 s1 e1 s2 e2 h25 h49 s83 e83 h50 s84 e84 h51 h53 s88 e88 s89 e89 s90 e90)
          · intro h54
            refine q_iload_n (pc' := 6) ja_M_in_5 rfl rfl ?_
            refine q_iload_n (pc' := 7) ja_M_in_6 rfl rfl ?_
            refine q_ic_gt (pc' := 10) ja_M_in_7 rfl ?_ ?_
            · intro h55
              refine q_iconst (pc' := 15) ja_M_in_14 rfl 0 (by decide) ?_
              refine q_iret ja_M_in_15 rfl (by decide) ?_
              show q_W _ _ _ _ 76 [some (.ref 146), some (.int (s 146 18)), some (.int x1), some (.int x2), some (.int x3), some (.int x4)] [.int 0, .int (s 146 18), .ref 160] s84
              refine q_if_ne (pc' := 79) ja_M_sets_76 rfl (fun h => absurd ((by decide : (0 : Int32) = 0)) h) (fun _ => ?_)
              refine q_iload_n (pc' := 80) ja_M_sets_79 rfl rfl ?_
              refine q_bipush (pc' := 82) ja_M_sets_80 rfl 6 (by decide) ?_
              refine q_ic_ne (pc' := 85) ja_M_sets_82 rfl ?_ ?_
              · intro h56
                refine q_iconst (pc' := 91) ja_M_sets_90 rfl (-1) (by decide) ?_
                refine q_iast (pc' := 92) ja_M_sets_91 rfl (by decide) (l := 13) rfl (k66 h1 s1 e1 s2 e2 h25 h49 s83 e83 h50 s84 e84 h54 h55 h56) ?_
                intro s91 e91
                refine q_vret ja_M_sets_92 rfl ?_
                show q_W _ _ _ _ 47 [some (.ref 146), some (.int x1), some (.int x2), some (.int x3), some (.int x4), some (.int y0)] [] s91
                refine q_aload_n (pc' := 48) ja_M_acts_47 rfl rfl ?_
                refine q_dup (pc' := 49) ja_M_acts_48 rfl rfl ?_
                refine q_getf (pc' := 52) (v := .int (s91 146 18)) ja_M_acts_49 rfl (by decide) ⟨rfl, by decide⟩ rfl ?_
                refine q_iconst (pc' := 53) ja_M_acts_52 rfl 1 (by decide) ?_
                refine q_iadd (pc' := 54) ja_M_acts_53 rfl ?_
                refine q_putf (pc' := 57) ja_M_acts_54 rfl (by decide) rfl rfl rfl ?_
                intro s92 e92
                refine q_aload_n (pc' := 58) ja_M_acts_57 rfl rfl ?_
                refine q_dup (pc' := 59) ja_M_acts_58 rfl rfl ?_
                refine q_getf (pc' := 62) (v := .int (s92 146 17)) ja_M_acts_59 rfl (by decide) ⟨rfl, by decide⟩ rfl ?_
                refine q_iconst (pc' := 63) ja_M_acts_62 rfl 1 (by decide) ?_
                refine q_iadd (pc' := 64) ja_M_acts_63 rfl ?_
                refine q_putf (pc' := 67) ja_M_acts_64 rfl (by decide) rfl rfl rfl ?_
                intro s93 e93
                refine q_aload_n (pc' := 68) ja_M_acts_67 rfl rfl ?_
                refine q_getf (pc' := 71) (v := .int (s93 146 18)) ja_M_acts_68 rfl (by decide) ⟨rfl, by decide⟩ rfl ?_
                exact q_iret ja_M_acts_71 rfl rfl (k67 h1 s1 e1 s2 e2 h25 h49 s83 e83 h50 s84 e84 h54 h55 h56 s91 e91 s92 e92 s93 e93)
              · intro h57
                refine q_iload (pc' := 87) ja_M_sets_85 rfl rfl ?_
                refine q_goto ja_M_sets_87 ?_
                refine q_iast (pc' := 92) ja_M_sets_91 rfl (by decide) (l := 13) rfl (k68 h1 s1 e1 s2 e2 h25 h49 s83 e83 h50 s84 e84 h54 h55 h57) ?_
                intro s94 e94
                refine q_vret ja_M_sets_92 rfl ?_
                show q_W _ _ _ _ 47 [some (.ref 146), some (.int x1), some (.int x2), some (.int x3), some (.int x4), some (.int y0)] [] s94
                refine q_aload_n (pc' := 48) ja_M_acts_47 rfl rfl ?_
                refine q_dup (pc' := 49) ja_M_acts_48 rfl rfl ?_
                refine q_getf (pc' := 52) (v := .int (s94 146 18)) ja_M_acts_49 rfl (by decide) ⟨rfl, by decide⟩ rfl ?_
                refine q_iconst (pc' := 53) ja_M_acts_52 rfl 1 (by decide) ?_
                refine q_iadd (pc' := 54) ja_M_acts_53 rfl ?_
                refine q_putf (pc' := 57) ja_M_acts_54 rfl (by decide) rfl rfl rfl ?_
                intro s95 e95
                refine q_aload_n (pc' := 58) ja_M_acts_57 rfl rfl ?_
                refine q_dup (pc' := 59) ja_M_acts_58 rfl rfl ?_
                refine q_getf (pc' := 62) (v := .int (s95 146 17)) ja_M_acts_59 rfl (by decide) ⟨rfl, by decide⟩ rfl ?_
                refine q_iconst (pc' := 63) ja_M_acts_62 rfl 1 (by decide) ?_
                refine q_iadd (pc' := 64) ja_M_acts_63 rfl ?_
                refine q_putf (pc' := 67) ja_M_acts_64 rfl (by decide) rfl rfl rfl ?_
                intro s96 e96
                refine q_aload_n (pc' := 68) ja_M_acts_67 rfl rfl ?_
                refine q_getf (pc' := 71) (v := .int (s96 146 18)) ja_M_acts_68 rfl (by decide) ⟨rfl, by decide⟩ rfl ?_
                exact q_iret ja_M_acts_71 rfl rfl (k69 h1 s1 e1 s2 e2 h25 h49 s83 e83 h50 s84 e84 h54 h55 h57 s94 e94 s95 e95 s96 e96)
            · intro h58
              refine q_iconst (pc' := 11) ja_M_in_10 rfl 1 (by decide) ?_
              refine q_goto ja_M_in_11 ?_
              refine q_iret ja_M_in_15 rfl (by decide) ?_
              show q_W _ _ _ _ 76 [some (.ref 146), some (.int (s 146 18)), some (.int x1), some (.int x2), some (.int x3), some (.int x4)] [.int 1, .int (s 146 18), .ref 160] s84
              refine q_if_ne (pc' := 79) ja_M_sets_76 rfl (fun _ => ?_) (fun h => absurd h ((by decide : ¬ (1 : Int32) = 0)))
              refine q_iload (pc' := 87) ja_M_sets_85 rfl rfl ?_
              refine q_goto ja_M_sets_87 ?_
              refine q_iast (pc' := 92) ja_M_sets_91 rfl (by decide) (l := 13) rfl (k70 h1 s1 e1 s2 e2 h25 h49 s83 e83 h50 s84 e84 h54 h58) ?_
              intro s97 e97
              refine q_vret ja_M_sets_92 rfl ?_
              show q_W _ _ _ _ 47 [some (.ref 146), some (.int x1), some (.int x2), some (.int x3), some (.int x4), some (.int y0)] [] s97
              refine q_aload_n (pc' := 48) ja_M_acts_47 rfl rfl ?_
              refine q_dup (pc' := 49) ja_M_acts_48 rfl rfl ?_
              refine q_getf (pc' := 52) (v := .int (s97 146 18)) ja_M_acts_49 rfl (by decide) ⟨rfl, by decide⟩ rfl ?_
              refine q_iconst (pc' := 53) ja_M_acts_52 rfl 1 (by decide) ?_
              refine q_iadd (pc' := 54) ja_M_acts_53 rfl ?_
              refine q_putf (pc' := 57) ja_M_acts_54 rfl (by decide) rfl rfl rfl ?_
              intro s98 e98
              refine q_aload_n (pc' := 58) ja_M_acts_57 rfl rfl ?_
              refine q_dup (pc' := 59) ja_M_acts_58 rfl rfl ?_
              refine q_getf (pc' := 62) (v := .int (s98 146 17)) ja_M_acts_59 rfl (by decide) ⟨rfl, by decide⟩ rfl ?_
              refine q_iconst (pc' := 63) ja_M_acts_62 rfl 1 (by decide) ?_
              refine q_iadd (pc' := 64) ja_M_acts_63 rfl ?_
              refine q_putf (pc' := 67) ja_M_acts_64 rfl (by decide) rfl rfl rfl ?_
              intro s99 e99
              refine q_aload_n (pc' := 68) ja_M_acts_67 rfl rfl ?_
              refine q_getf (pc' := 71) (v := .int (s99 146 18)) ja_M_acts_68 rfl (by decide) ⟨rfl, by decide⟩ rfl ?_
              exact q_iret ja_M_acts_71 rfl rfl (k71 h1 s1 e1 s2 e2 h25 h49 s83 e83 h50 s84 e84 h54 h58 s97 e97 s98 e98 s99 e99)
        · intro h59
          refine q_iload_n (pc' := 6) ja_M_in_5 rfl rfl ?_
          refine q_iload_n (pc' := 7) ja_M_in_6 rfl rfl ?_
          refine q_ic_gt (pc' := 10) ja_M_in_7 rfl ?_ ?_
          · intro h60
            refine q_iconst (pc' := 15) ja_M_in_14 rfl 0 (by decide) ?_
            refine q_iret ja_M_in_15 rfl (by decide) ?_
            show q_W _ _ _ _ 55 [some (.ref 146), some (.int (s 146 18)), some (.int x1), some (.int x2), some (.int x3), some (.int x4)] [.int 0, .int (s 146 18), .ref 159] s83
            refine q_if_eq (pc' := 58) ja_M_sets_55 rfl (fun _ => ?_) (fun h => absurd ((by decide : (0 : Int32) = 0)) h)
            refine q_iconst (pc' := 64) ja_M_sets_63 rfl (-1) (by decide) ?_
            refine q_iast (pc' := 65) ja_M_sets_64 rfl (by decide) (l := 13) rfl (k72 h1 s1 e1 s2 e2 h25 h49 s83 e83 h59 h60) ?_
            intro s100 e100
            refine q_aload_n (pc' := 66) ja_M_sets_65 rfl rfl ?_
            refine q_getf (pc' := 69) (v := .ref 160) ja_M_sets_66 rfl (by decide) ⟨rfl, by decide⟩ rfl ?_
            refine q_iload_n (pc' := 70) ja_M_sets_69 rfl rfl ?_
            refine q_iload_n (pc' := 71) ja_M_sets_70 rfl rfl ?_
            refine q_iconst (pc' := 72) ja_M_sets_71 rfl 2 (by decide) ?_
            refine q_iconst (pc' := 73) ja_M_sets_72 rfl 3 (by decide) ?_
            refine q_stat (pc' := 76) (as := [.int x1, .int 2, .int 3]) (r := [.int (s 146 18), .ref 160]) ja_M_sets_73 rfl (by decide) rfl rfl ?_
            refine q_in (M := jm_M_in) rfl (Nat.le_of_ble_eq_true rfl) (ls := [some (.int x1), some (.int 2), some (.int 3)]) rfl ?_
            refine q_iload_n (pc' := 1) ja_M_in_0 rfl rfl ?_
            refine q_iload_n (pc' := 2) ja_M_in_1 rfl rfl ?_
            refine q_ic_lt (pc' := 5) ja_M_in_2 rfl ?_ ?_
            · intro h61
              refine q_iconst (pc' := 15) ja_M_in_14 rfl 0 (by decide) ?_
              refine q_iret ja_M_in_15 rfl (by decide) ?_
              show q_W _ _ _ _ 76 [some (.ref 146), some (.int (s 146 18)), some (.int x1), some (.int x2), some (.int x3), some (.int x4)] [.int 0, .int (s 146 18), .ref 160] s100
              refine q_if_ne (pc' := 79) ja_M_sets_76 rfl (fun h => absurd ((by decide : (0 : Int32) = 0)) h) (fun _ => ?_)
              refine q_iload_n (pc' := 80) ja_M_sets_79 rfl rfl ?_
              refine q_bipush (pc' := 82) ja_M_sets_80 rfl 6 (by decide) ?_
              refine q_ic_ne (pc' := 85) ja_M_sets_82 rfl ?_ ?_
              · intro h62
                refine q_iconst (pc' := 91) ja_M_sets_90 rfl (-1) (by decide) ?_
                refine q_iast (pc' := 92) ja_M_sets_91 rfl (by decide) (l := 13) rfl (k73 h1 s1 e1 s2 e2 h25 h49 s83 e83 h59 h60 s100 e100 h61 h62) ?_
                intro s101 e101
                refine q_vret ja_M_sets_92 rfl ?_
                show q_W _ _ _ _ 47 [some (.ref 146), some (.int x1), some (.int x2), some (.int x3), some (.int x4), some (.int y0)] [] s101
                refine q_aload_n (pc' := 48) ja_M_acts_47 rfl rfl ?_
                refine q_dup (pc' := 49) ja_M_acts_48 rfl rfl ?_
                refine q_getf (pc' := 52) (v := .int (s101 146 18)) ja_M_acts_49 rfl (by decide) ⟨rfl, by decide⟩ rfl ?_
                refine q_iconst (pc' := 53) ja_M_acts_52 rfl 1 (by decide) ?_
                refine q_iadd (pc' := 54) ja_M_acts_53 rfl ?_
                refine q_putf (pc' := 57) ja_M_acts_54 rfl (by decide) rfl rfl rfl ?_
                intro s102 e102
                refine q_aload_n (pc' := 58) ja_M_acts_57 rfl rfl ?_
                refine q_dup (pc' := 59) ja_M_acts_58 rfl rfl ?_
                refine q_getf (pc' := 62) (v := .int (s102 146 17)) ja_M_acts_59 rfl (by decide) ⟨rfl, by decide⟩ rfl ?_
                refine q_iconst (pc' := 63) ja_M_acts_62 rfl 1 (by decide) ?_
                refine q_iadd (pc' := 64) ja_M_acts_63 rfl ?_
                refine q_putf (pc' := 67) ja_M_acts_64 rfl (by decide) rfl rfl rfl ?_
                intro s103 e103
                refine q_aload_n (pc' := 68) ja_M_acts_67 rfl rfl ?_
                refine q_getf (pc' := 71) (v := .int (s103 146 18)) ja_M_acts_68 rfl (by decide) ⟨rfl, by decide⟩ rfl ?_
                exact q_iret ja_M_acts_71 rfl rfl (k74 h1 s1 e1 s2 e2 h25 h49 s83 e83 h59 h60 s100 e100 h61 h62 s101 e101 s102 e102 s103 e103)
              · intro h63
                refine q_iload (pc' := 87) ja_M_sets_85 rfl rfl ?_
                refine q_goto ja_M_sets_87 ?_
                refine q_iast (pc' := 92) ja_M_sets_91 rfl (by decide) (l := 13) rfl (k75 h1 s1 e1 s2 e2 h25 h49 s83 e83 h59 h60 s100 e100 h61 h63) ?_
                intro s104 e104
                refine q_vret ja_M_sets_92 rfl ?_
                show q_W _ _ _ _ 47 [some (.ref 146), some (.int x1), some (.int x2), some (.int x3), some (.int x4), some (.int y0)] [] s104
                refine q_aload_n (pc' := 48) ja_M_acts_47 rfl rfl ?_
                refine q_dup (pc' := 49) ja_M_acts_48 rfl rfl ?_
                refine q_getf (pc' := 52) (v := .int (s104 146 18)) ja_M_acts_49 rfl (by decide) ⟨rfl, by decide⟩ rfl ?_
                refine q_iconst (pc' := 53) ja_M_acts_52 rfl 1 (by decide) ?_
                refine q_iadd (pc' := 54) ja_M_acts_53 rfl ?_
                refine q_putf (pc' := 57) ja_M_acts_54 rfl (by decide) rfl rfl rfl ?_
                intro s105 e105
                refine q_aload_n (pc' := 58) ja_M_acts_57 rfl rfl ?_
                refine q_dup (pc' := 59) ja_M_acts_58 rfl rfl ?_
                refine q_getf (pc' := 62) (v := .int (s105 146 17)) ja_M_acts_59 rfl (by decide) ⟨rfl, by decide⟩ rfl ?_
                refine q_iconst (pc' := 63) ja_M_acts_62 rfl 1 (by decide) ?_
                refine q_iadd (pc' := 64) ja_M_acts_63 rfl ?_
                refine q_putf (pc' := 67) ja_M_acts_64 rfl (by decide) rfl rfl rfl ?_
                intro s106 e106
                refine q_aload_n (pc' := 68) ja_M_acts_67 rfl rfl ?_
                refine q_getf (pc' := 71) (v := .int (s106 146 18)) ja_M_acts_68 rfl (by decide) ⟨rfl, by decide⟩ rfl ?_
                exact q_iret ja_M_acts_71 rfl rfl (k76 h1 s1 e1 s2 e2 h25 h49 s83 e83 h59 h60 s100 e100 h61 h63 s104 e104 s105 e105 s106 e106)
            · intro h64
              refine q_iload_n (pc' := 6) ja_M_in_5 rfl rfl ?_
              refine q_iload_n (pc' := 7) ja_M_in_6 rfl rfl ?_
              refine q_ic_gt (pc' := 10) ja_M_in_7 rfl (fun _ => ?_) (fun h => absurd h (h60))
              refine q_iconst (pc' := 15) ja_M_in_14 rfl 0 (by decide) ?_
              refine q_iret ja_M_in_15 rfl (by decide) ?_
              show q_W _ _ _ _ 76 [some (.ref 146), some (.int (s 146 18)), some (.int x1), some (.int x2), some (.int x3), some (.int x4)] [.int 0, .int (s 146 18), .ref 160] s100
              refine q_if_ne (pc' := 79) ja_M_sets_76 rfl (fun h => absurd ((by decide : (0 : Int32) = 0)) h) (fun _ => ?_)
              refine q_iload_n (pc' := 80) ja_M_sets_79 rfl rfl ?_
              refine q_bipush (pc' := 82) ja_M_sets_80 rfl 6 (by decide) ?_
              refine q_ic_ne (pc' := 85) ja_M_sets_82 rfl ?_ ?_
              · intro h65
                refine q_iconst (pc' := 91) ja_M_sets_90 rfl (-1) (by decide) ?_
                refine q_iast (pc' := 92) ja_M_sets_91 rfl (by decide) (l := 13) rfl (k77 h1 s1 e1 s2 e2 h25 h49 s83 e83 h59 h60 s100 e100 h64 h65) ?_
                intro s107 e107
                refine q_vret ja_M_sets_92 rfl ?_
                show q_W _ _ _ _ 47 [some (.ref 146), some (.int x1), some (.int x2), some (.int x3), some (.int x4), some (.int y0)] [] s107
                refine q_aload_n (pc' := 48) ja_M_acts_47 rfl rfl ?_
                refine q_dup (pc' := 49) ja_M_acts_48 rfl rfl ?_
                refine q_getf (pc' := 52) (v := .int (s107 146 18)) ja_M_acts_49 rfl (by decide) ⟨rfl, by decide⟩ rfl ?_
                refine q_iconst (pc' := 53) ja_M_acts_52 rfl 1 (by decide) ?_
                refine q_iadd (pc' := 54) ja_M_acts_53 rfl ?_
                refine q_putf (pc' := 57) ja_M_acts_54 rfl (by decide) rfl rfl rfl ?_
                intro s108 e108
                refine q_aload_n (pc' := 58) ja_M_acts_57 rfl rfl ?_
                refine q_dup (pc' := 59) ja_M_acts_58 rfl rfl ?_
                refine q_getf (pc' := 62) (v := .int (s108 146 17)) ja_M_acts_59 rfl (by decide) ⟨rfl, by decide⟩ rfl ?_
                refine q_iconst (pc' := 63) ja_M_acts_62 rfl 1 (by decide) ?_
                refine q_iadd (pc' := 64) ja_M_acts_63 rfl ?_
                refine q_putf (pc' := 67) ja_M_acts_64 rfl (by decide) rfl rfl rfl ?_
                intro s109 e109
                refine q_aload_n (pc' := 68) ja_M_acts_67 rfl rfl ?_
                refine q_getf (pc' := 71) (v := .int (s109 146 18)) ja_M_acts_68 rfl (by decide) ⟨rfl, by decide⟩ rfl ?_
                exact q_iret ja_M_acts_71 rfl rfl (k78 h1 s1 e1 s2 e2 h25 h49 s83 e83 h59 h60 s100 e100 h64 h65 s107 e107 s108 e108 s109 e109)
              · intro h66
                refine q_iload (pc' := 87) ja_M_sets_85 rfl rfl ?_
                refine q_goto ja_M_sets_87 ?_
                refine q_iast (pc' := 92) ja_M_sets_91 rfl (by decide) (l := 13) rfl (k79 h1 s1 e1 s2 e2 h25 h49 s83 e83 h59 h60 s100 e100 h64 h66) ?_
                intro s110 e110
                refine q_vret ja_M_sets_92 rfl ?_
                show q_W _ _ _ _ 47 [some (.ref 146), some (.int x1), some (.int x2), some (.int x3), some (.int x4), some (.int y0)] [] s110
                refine q_aload_n (pc' := 48) ja_M_acts_47 rfl rfl ?_
                refine q_dup (pc' := 49) ja_M_acts_48 rfl rfl ?_
                refine q_getf (pc' := 52) (v := .int (s110 146 18)) ja_M_acts_49 rfl (by decide) ⟨rfl, by decide⟩ rfl ?_
                refine q_iconst (pc' := 53) ja_M_acts_52 rfl 1 (by decide) ?_
                refine q_iadd (pc' := 54) ja_M_acts_53 rfl ?_
                refine q_putf (pc' := 57) ja_M_acts_54 rfl (by decide) rfl rfl rfl ?_
                intro s111 e111
                refine q_aload_n (pc' := 58) ja_M_acts_57 rfl rfl ?_
                refine q_dup (pc' := 59) ja_M_acts_58 rfl rfl ?_
                refine q_getf (pc' := 62) (v := .int (s111 146 17)) ja_M_acts_59 rfl (by decide) ⟨rfl, by decide⟩ rfl ?_
                refine q_iconst (pc' := 63) ja_M_acts_62 rfl 1 (by decide) ?_
                refine q_iadd (pc' := 64) ja_M_acts_63 rfl ?_
                refine q_putf (pc' := 67) ja_M_acts_64 rfl (by decide) rfl rfl rfl ?_
                intro s112 e112
                refine q_aload_n (pc' := 68) ja_M_acts_67 rfl rfl ?_
                refine q_getf (pc' := 71) (v := .int (s112 146 18)) ja_M_acts_68 rfl (by decide) ⟨rfl, by decide⟩ rfl ?_
                exact q_iret ja_M_acts_71 rfl rfl (k80 h1 s1 e1 s2 e2 h25 h49 s83 e83 h59 h60 s100 e100 h64 h66 s110 e110 s111 e111 s112 e112)
          · intro h67
            refine q_iconst (pc' := 11) ja_M_in_10 rfl 1 (by decide) ?_
            refine q_goto ja_M_in_11 ?_
            refine q_iret ja_M_in_15 rfl (by decide) ?_
            show q_W _ _ _ _ 55 [some (.ref 146), some (.int (s 146 18)), some (.int x1), some (.int x2), some (.int x3), some (.int x4)] [.int 1, .int (s 146 18), .ref 159] s83
            refine q_if_eq (pc' := 58) ja_M_sets_55 rfl (fun h => absurd h ((by decide : ¬ (1 : Int32) = 0))) (fun _ => ?_)
            refine q_iload (pc' := 60) ja_M_sets_58 rfl rfl ?_
            refine q_goto ja_M_sets_60 ?_
            refine q_iast (pc' := 65) ja_M_sets_64 rfl (by decide) (l := 13) rfl (k81 h1 s1 e1 s2 e2 h25 h49 s83 e83 h59 h67) ?_
            intro s113 e113
            refine q_aload_n (pc' := 66) ja_M_sets_65 rfl rfl ?_
            refine q_getf (pc' := 69) (v := .ref 160) ja_M_sets_66 rfl (by decide) ⟨rfl, by decide⟩ rfl ?_
            refine q_iload_n (pc' := 70) ja_M_sets_69 rfl rfl ?_
            refine q_iload_n (pc' := 71) ja_M_sets_70 rfl rfl ?_
            refine q_iconst (pc' := 72) ja_M_sets_71 rfl 2 (by decide) ?_
            refine q_iconst (pc' := 73) ja_M_sets_72 rfl 3 (by decide) ?_
            refine q_stat (pc' := 76) (as := [.int x1, .int 2, .int 3]) (r := [.int (s 146 18), .ref 160]) ja_M_sets_73 rfl (by decide) rfl rfl ?_
            refine q_in (M := jm_M_in) rfl (Nat.le_of_ble_eq_true rfl) (ls := [some (.int x1), some (.int 2), some (.int 3)]) rfl ?_
            refine q_iload_n (pc' := 1) ja_M_in_0 rfl rfl ?_
            refine q_iload_n (pc' := 2) ja_M_in_1 rfl rfl ?_
            refine q_ic_lt (pc' := 5) ja_M_in_2 rfl ?_ ?_
            · intro h68
              refine q_iconst (pc' := 15) ja_M_in_14 rfl 0 (by decide) ?_
              refine q_iret ja_M_in_15 rfl (by decide) ?_
              show q_W _ _ _ _ 76 [some (.ref 146), some (.int (s 146 18)), some (.int x1), some (.int x2), some (.int x3), some (.int x4)] [.int 0, .int (s 146 18), .ref 160] s113
              refine q_if_ne (pc' := 79) ja_M_sets_76 rfl (fun h => absurd ((by decide : (0 : Int32) = 0)) h) (fun _ => ?_)
              refine q_iload_n (pc' := 80) ja_M_sets_79 rfl rfl ?_
              refine q_bipush (pc' := 82) ja_M_sets_80 rfl 6 (by decide) ?_
              refine q_ic_ne (pc' := 85) ja_M_sets_82 rfl ?_ ?_
              · intro h69
                refine q_iconst (pc' := 91) ja_M_sets_90 rfl (-1) (by decide) ?_
                refine q_iast (pc' := 92) ja_M_sets_91 rfl (by decide) (l := 13) rfl (k82 h1 s1 e1 s2 e2 h25 h49 s83 e83 h59 h67 s113 e113 h68 h69) ?_
                intro s114 e114
                refine q_vret ja_M_sets_92 rfl ?_
                show q_W _ _ _ _ 47 [some (.ref 146), some (.int x1), some (.int x2), some (.int x3), some (.int x4), some (.int y0)] [] s114
                refine q_aload_n (pc' := 48) ja_M_acts_47 rfl rfl ?_
                refine q_dup (pc' := 49) ja_M_acts_48 rfl rfl ?_
                refine q_getf (pc' := 52) (v := .int (s114 146 18)) ja_M_acts_49 rfl (by decide) ⟨rfl, by decide⟩ rfl ?_
                refine q_iconst (pc' := 53) ja_M_acts_52 rfl 1 (by decide) ?_
                refine q_iadd (pc' := 54) ja_M_acts_53 rfl ?_
                refine q_putf (pc' := 57) ja_M_acts_54 rfl (by decide) rfl rfl rfl ?_
                intro s115 e115
                refine q_aload_n (pc' := 58) ja_M_acts_57 rfl rfl ?_
                refine q_dup (pc' := 59) ja_M_acts_58 rfl rfl ?_
                refine q_getf (pc' := 62) (v := .int (s115 146 17)) ja_M_acts_59 rfl (by decide) ⟨rfl, by decide⟩ rfl ?_
                refine q_iconst (pc' := 63) ja_M_acts_62 rfl 1 (by decide) ?_
                refine q_iadd (pc' := 64) ja_M_acts_63 rfl ?_
                refine q_putf (pc' := 67) ja_M_acts_64 rfl (by decide) rfl rfl rfl ?_
                intro s116 e116
                refine q_aload_n (pc' := 68) ja_M_acts_67 rfl rfl ?_
                refine q_getf (pc' := 71) (v := .int (s116 146 18)) ja_M_acts_68 rfl (by decide) ⟨rfl, by decide⟩ rfl ?_
                exact q_iret ja_M_acts_71 rfl rfl (k83 h1 s1 e1 s2 e2 h25 h49 s83 e83 h59 h67 s113 e113 h68 h69 s114 e114 s115 e115 s116 e116)
              · intro h70
                refine q_iload (pc' := 87) ja_M_sets_85 rfl rfl ?_
                refine q_goto ja_M_sets_87 ?_
                refine q_iast (pc' := 92) ja_M_sets_91 rfl (by decide) (l := 13) rfl (k84 h1 s1 e1 s2 e2 h25 h49 s83 e83 h59 h67 s113 e113 h68 h70) ?_
                intro s117 e117
                refine q_vret ja_M_sets_92 rfl ?_
                show q_W _ _ _ _ 47 [some (.ref 146), some (.int x1), some (.int x2), some (.int x3), some (.int x4), some (.int y0)] [] s117
                refine q_aload_n (pc' := 48) ja_M_acts_47 rfl rfl ?_
                refine q_dup (pc' := 49) ja_M_acts_48 rfl rfl ?_
                refine q_getf (pc' := 52) (v := .int (s117 146 18)) ja_M_acts_49 rfl (by decide) ⟨rfl, by decide⟩ rfl ?_
                refine q_iconst (pc' := 53) ja_M_acts_52 rfl 1 (by decide) ?_
                refine q_iadd (pc' := 54) ja_M_acts_53 rfl ?_
                refine q_putf (pc' := 57) ja_M_acts_54 rfl (by decide) rfl rfl rfl ?_
                intro s118 e118
                refine q_aload_n (pc' := 58) ja_M_acts_57 rfl rfl ?_
                refine q_dup (pc' := 59) ja_M_acts_58 rfl rfl ?_
                refine q_getf (pc' := 62) (v := .int (s118 146 17)) ja_M_acts_59 rfl (by decide) ⟨rfl, by decide⟩ rfl ?_
                refine q_iconst (pc' := 63) ja_M_acts_62 rfl 1 (by decide) ?_
                refine q_iadd (pc' := 64) ja_M_acts_63 rfl ?_
                refine q_putf (pc' := 67) ja_M_acts_64 rfl (by decide) rfl rfl rfl ?_
                intro s119 e119
                refine q_aload_n (pc' := 68) ja_M_acts_67 rfl rfl ?_
                refine q_getf (pc' := 71) (v := .int (s119 146 18)) ja_M_acts_68 rfl (by decide) ⟨rfl, by decide⟩ rfl ?_
                exact q_iret ja_M_acts_71 rfl rfl (k85 h1 s1 e1 s2 e2 h25 h49 s83 e83 h59 h67 s113 e113 h68 h70 s117 e117 s118 e118 s119 e119)
            · intro h71
              refine q_iload_n (pc' := 6) ja_M_in_5 rfl rfl ?_
              refine q_iload_n (pc' := 7) ja_M_in_6 rfl rfl ?_
              refine q_ic_gt (pc' := 10) ja_M_in_7 rfl (fun h => absurd (h67) h) (fun _ => ?_)
              refine q_iconst (pc' := 11) ja_M_in_10 rfl 1 (by decide) ?_
              refine q_goto ja_M_in_11 ?_
              refine q_iret ja_M_in_15 rfl (by decide) ?_
              show q_W _ _ _ _ 76 [some (.ref 146), some (.int (s 146 18)), some (.int x1), some (.int x2), some (.int x3), some (.int x4)] [.int 1, .int (s 146 18), .ref 160] s113
              refine q_if_ne (pc' := 79) ja_M_sets_76 rfl (fun _ => ?_) (fun h => absurd h ((by decide : ¬ (1 : Int32) = 0)))
              refine q_iload (pc' := 87) ja_M_sets_85 rfl rfl ?_
              refine q_goto ja_M_sets_87 ?_
              refine q_iast (pc' := 92) ja_M_sets_91 rfl (by decide) (l := 13) rfl (k86 h1 s1 e1 s2 e2 h25 h49 s83 e83 h59 h67 s113 e113 h71) ?_
              intro s120 e120
              refine q_vret ja_M_sets_92 rfl ?_
              show q_W _ _ _ _ 47 [some (.ref 146), some (.int x1), some (.int x2), some (.int x3), some (.int x4), some (.int y0)] [] s120
              refine q_aload_n (pc' := 48) ja_M_acts_47 rfl rfl ?_
              refine q_dup (pc' := 49) ja_M_acts_48 rfl rfl ?_
              refine q_getf (pc' := 52) (v := .int (s120 146 18)) ja_M_acts_49 rfl (by decide) ⟨rfl, by decide⟩ rfl ?_
              refine q_iconst (pc' := 53) ja_M_acts_52 rfl 1 (by decide) ?_
              refine q_iadd (pc' := 54) ja_M_acts_53 rfl ?_
              refine q_putf (pc' := 57) ja_M_acts_54 rfl (by decide) rfl rfl rfl ?_
              intro s121 e121
              refine q_aload_n (pc' := 58) ja_M_acts_57 rfl rfl ?_
              refine q_dup (pc' := 59) ja_M_acts_58 rfl rfl ?_
              refine q_getf (pc' := 62) (v := .int (s121 146 17)) ja_M_acts_59 rfl (by decide) ⟨rfl, by decide⟩ rfl ?_
              refine q_iconst (pc' := 63) ja_M_acts_62 rfl 1 (by decide) ?_
              refine q_iadd (pc' := 64) ja_M_acts_63 rfl ?_
              refine q_putf (pc' := 67) ja_M_acts_64 rfl (by decide) rfl rfl rfl ?_
              intro s122 e122
              refine q_aload_n (pc' := 68) ja_M_acts_67 rfl rfl ?_
              refine q_getf (pc' := 71) (v := .int (s122 146 18)) ja_M_acts_68 rfl (by decide) ⟨rfl, by decide⟩ rfl ?_
              exact q_iret ja_M_acts_71 rfl rfl (k87 h1 s1 e1 s2 e2 h25 h49 s83 e83 h59 h67 s113 e113 h71 s120 e120 s121 e121 s122 e122)
  · intro h72
    refine q_bipush (pc' := 30) ja_M_acts_28 rfl (-20) (by decide) ?_
    refine q_iload (pc' := 32) ja_M_acts_30 rfl rfl ?_
    refine q_isub (pc' := 33) ja_M_acts_32 rfl ?_
    exact q_iret ja_M_acts_33 rfl rfl (k88 h72)
set_option maxRecDepth 20000 in
theorem t_M_added {G : jv_X} {d : Nat} {B : Option Value → jg_H → Prop} {s : jg_H} 
    (k1 : q_P G (d + 1) 149 [.ref 146] s (fun v t => q_W G (d + 1) jm_M_added B 4 [some (.ref 146), none] (v.toList ++ []) t)) :
    q_P G (d + 2) 148 [.ref 146] s B := by
  refine q_in (M := jm_M_added) rfl (Nat.le_of_ble_eq_true rfl) (ls := [some (.ref 146), none]) rfl ?_
  refine q_aload_n (pc' := 1) ja_M_added_0 rfl rfl ?_
  refine q_virt (pc' := 4) (c := 146) (as := []) (r := []) ja_M_added_1 rfl rfl rfl (by decide) ⟨rfl, by decide⟩ ?_
  exact k1
set_option maxRecDepth 20000 in
theorem t_M_added_4 {G : jv_X} {d : Nat} {B : Option Value → jg_H → Prop} {s : jg_H} {o1 : Option Value} (ho1 : f_n o1 = true)
    (k1 : (s 146 44) = (-1) → (s 146 42) = 43 → q_P G (d + 1) 134 [.ref 146] s (fun v t => q_W G (d + 1) jm_M_added B 50 [some (.ref 146), some (.int 7)] (v.toList ++ []) t))
    (k2 : (s 146 44) = (-1) → ¬ (s 146 42) = 43 → ¬ (s 146 42) = 45 → B none s)
    (k3 : (s 146 44) = (-1) → ¬ (s 146 42) = 43 → (s 146 42) = 45 → q_P G (d + 1) 134 [.ref 146] s (fun v t => q_W G (d + 1) jm_M_added B 50 [some (.ref 146), some (.int 8)] (v.toList ++ []) t))
    (k4 : ¬ (s 146 44) = (-1) → B none s) :
    q_W G (d + 1) jm_M_added B 4 [some (.ref 146), o1] [] s := by
  refine q_aload_n (pc' := 5) ja_M_added_4 rfl rfl ?_
  refine q_virt (pc' := 8) (c := 146) (as := []) (r := []) ja_M_added_5 rfl rfl rfl (by decide) ⟨rfl, by decide⟩ ?_
  refine q_in (M := jm_M_isWrong) rfl (Nat.le_of_ble_eq_true rfl) (ls := [some (.ref 146)]) rfl ?_
  refine q_aload_n (pc' := 1) ja_M_isWrong_0 rfl rfl ?_
  refine q_getf (pc' := 4) (v := .int (s 146 44)) ja_M_isWrong_1 rfl (by decide) ⟨rfl, by decide⟩ rfl ?_
  refine q_iconst (pc' := 5) ja_M_isWrong_4 rfl (-1) (by decide) ?_
  refine q_ic_eq (pc' := 8) ja_M_isWrong_5 rfl ?_ ?_
  · intro h1
    refine q_iconst (pc' := 13) ja_M_isWrong_12 rfl 0 (by decide) ?_
    refine q_iret ja_M_isWrong_13 rfl (by decide) ?_
    show q_W _ _ _ _ 8 [some (.ref 146), o1] [.int 0] s
    refine q_if_ne (pc' := 11) ja_M_added_8 rfl (fun h => absurd ((by decide : (0 : Int32) = 0)) h) (fun _ => ?_)
    refine q_aload_n (pc' := 12) ja_M_added_11 rfl rfl ?_
    refine q_getf (pc' := 15) (v := .int (s 146 42)) ja_M_added_12 rfl (by decide) ⟨rfl, by decide⟩ rfl ?_
    refine q_bipush (pc' := 17) ja_M_added_15 rfl 43 (by decide) ?_
    refine q_ic_eq (pc' := 20) ja_M_added_17 rfl ?_ ?_
    · intro h2
      refine q_aload_n (pc' := 30) ja_M_added_29 rfl rfl ?_
      refine q_getf (pc' := 33) (v := .int (s 146 42)) ja_M_added_30 rfl (by decide) ⟨rfl, by decide⟩ rfl ?_
      refine q_bipush (pc' := 35) ja_M_added_33 rfl 43 (by decide) ?_
      refine q_ic_ne (pc' := 38) ja_M_added_35 rfl (fun h => absurd (h2) h) (fun _ => ?_)
      refine q_bipush (pc' := 40) ja_M_added_38 rfl 7 (by decide) ?_
      refine q_goto ja_M_added_40 ?_
      refine q_istore_n (pc' := 46) (ls' := [some (.ref 146), some (.int 7)]) ja_M_added_45 rfl ⟨Nat.le_of_ble_eq_true rfl, rfl⟩ rfl ?_
      refine q_aload_n (pc' := 47) ja_M_added_46 rfl rfl ?_
      refine q_virt (pc' := 50) (c := 146) (as := []) (r := []) ja_M_added_47 rfl rfl rfl (by decide) ⟨rfl, by decide⟩ ?_
      exact (k1 h1 h2)
    · intro h3
      refine q_aload_n (pc' := 21) ja_M_added_20 rfl rfl ?_
      refine q_getf (pc' := 24) (v := .int (s 146 42)) ja_M_added_21 rfl (by decide) ⟨rfl, by decide⟩ rfl ?_
      refine q_bipush (pc' := 26) ja_M_added_24 rfl 45 (by decide) ?_
      refine q_ic_ne (pc' := 29) ja_M_added_26 rfl ?_ ?_
      · intro h4
        exact q_vret ja_M_added_63 rfl (k2 h1 h3 h4)
      · intro h5
        refine q_aload_n (pc' := 30) ja_M_added_29 rfl rfl ?_
        refine q_getf (pc' := 33) (v := .int (s 146 42)) ja_M_added_30 rfl (by decide) ⟨rfl, by decide⟩ rfl ?_
        refine q_bipush (pc' := 35) ja_M_added_33 rfl 43 (by decide) ?_
        refine q_ic_ne (pc' := 38) ja_M_added_35 rfl (fun _ => ?_) (fun h => absurd h (h3))
        refine q_bipush (pc' := 45) ja_M_added_43 rfl 8 (by decide) ?_
        refine q_istore_n (pc' := 46) (ls' := [some (.ref 146), some (.int 8)]) ja_M_added_45 rfl ⟨Nat.le_of_ble_eq_true rfl, rfl⟩ rfl ?_
        refine q_aload_n (pc' := 47) ja_M_added_46 rfl rfl ?_
        refine q_virt (pc' := 50) (c := 146) (as := []) (r := []) ja_M_added_47 rfl rfl rfl (by decide) ⟨rfl, by decide⟩ ?_
        exact (k3 h1 h3 h5)
  · intro h6
    refine q_iconst (pc' := 9) ja_M_isWrong_8 rfl 1 (by decide) ?_
    refine q_goto ja_M_isWrong_9 ?_
    refine q_iret ja_M_isWrong_13 rfl (by decide) ?_
    show q_W _ _ _ _ 8 [some (.ref 146), o1] [.int 1] s
    refine q_if_ne (pc' := 11) ja_M_added_8 rfl (fun _ => ?_) (fun h => absurd h ((by decide : ¬ (1 : Int32) = 0)))
    exact q_vret ja_M_added_63 rfl (k4 h6)
set_option maxRecDepth 20000 in
theorem t_M_added_50 {G : jv_X} {d : Nat} {B : Option Value → jg_H → Prop} {s : jg_H} (x1 : Int32)
    (k1 : q_P G (d + 1) 149 [.ref 146] s (fun v t => q_W G (d + 1) jm_M_added B 54 [some (.ref 146), some (.int x1)] (v.toList ++ []) t)) :
    q_W G (d + 1) jm_M_added B 50 [some (.ref 146), some (.int x1)] [] s := by
  refine q_aload_n (pc' := 51) ja_M_added_50 rfl rfl ?_
  refine q_virt (pc' := 54) (c := 146) (as := []) (r := []) ja_M_added_51 rfl rfl rfl (by decide) ⟨rfl, by decide⟩ ?_
  exact k1
set_option maxRecDepth 20000 in
theorem t_M_added_54 {G : jv_X} {d : Nat} {B : Option Value → jg_H → Prop} {s : jg_H} (x1 : Int32)
    (k1 : jv_in ((200 * (s 146 39)) + (s 146 46)) 1800 = true)
    (k2 : ∀ s1 : jg_H, s1 = jg_up s 163 ((200 * (s 146 39)) + (s 146 46)).toNatClampNeg x1 → jv_in ((200 * (s1 146 39)) + (s1 146 46)) 1800 = true)
    (k3 : ∀ s1 : jg_H, s1 = jg_up s 163 ((200 * (s 146 39)) + (s 146 46)).toNatClampNeg x1 → ∀ s2 : jg_H, s2 = jg_up s1 164 ((200 * (s1 146 39)) + (s1 146 46)).toNatClampNeg 0 → ∀ s3 : jg_H, s3 = jg_up s2 146 46 ((s2 146 46) + 1) → q_W G (d + 1) jm_M_added B 4 [some (.ref 146), some (.int x1)] [] s3) :
    q_W G (d + 1) jm_M_added B 54 [some (.ref 146), some (.int x1)] [] s := by
  refine q_aload_n (pc' := 55) ja_M_added_54 rfl rfl ?_
  refine q_iload_n (pc' := 56) ja_M_added_55 rfl rfl ?_
  refine q_iconst (pc' := 57) ja_M_added_56 rfl 0 (by decide) ?_
  refine q_virt (pc' := 60) (c := 146) (as := [.int x1, .int 0]) (r := []) ja_M_added_57 rfl rfl rfl (by decide) ⟨rfl, by decide⟩ ?_
  refine q_in (M := jm_M_emit) rfl (Nat.le_of_ble_eq_true rfl) (ls := [some (.ref 146), some (.int x1), some (.int 0)]) rfl ?_
  refine q_aload_n (pc' := 1) ja_M_emit_0 rfl rfl ?_
  refine q_getf (pc' := 4) (v := .ref 163) ja_M_emit_1 rfl (by decide) ⟨rfl, by decide⟩ rfl ?_
  refine q_sipush (pc' := 7) ja_M_emit_4 rfl 200 (by decide) ?_
  refine q_aload_n (pc' := 8) ja_M_emit_7 rfl rfl ?_
  refine q_getf (pc' := 11) (v := .int (s 146 39)) ja_M_emit_8 rfl (by decide) ⟨rfl, by decide⟩ rfl ?_
  refine q_imul (pc' := 12) ja_M_emit_11 rfl ?_
  refine q_aload_n (pc' := 13) ja_M_emit_12 rfl rfl ?_
  refine q_getf (pc' := 16) (v := .int (s 146 46)) ja_M_emit_13 rfl (by decide) ⟨rfl, by decide⟩ rfl ?_
  refine q_iadd (pc' := 17) ja_M_emit_16 rfl ?_
  refine q_iload_n (pc' := 18) ja_M_emit_17 rfl rfl ?_
  refine q_iast (pc' := 19) ja_M_emit_18 rfl (by decide) (l := 1800) rfl k1 ?_
  intro s1 e1
  refine q_aload_n (pc' := 20) ja_M_emit_19 rfl rfl ?_
  refine q_getf (pc' := 23) (v := .ref 164) ja_M_emit_20 rfl (by decide) ⟨rfl, by decide⟩ rfl ?_
  refine q_sipush (pc' := 26) ja_M_emit_23 rfl 200 (by decide) ?_
  refine q_aload_n (pc' := 27) ja_M_emit_26 rfl rfl ?_
  refine q_getf (pc' := 30) (v := .int (s1 146 39)) ja_M_emit_27 rfl (by decide) ⟨rfl, by decide⟩ rfl ?_
  refine q_imul (pc' := 31) ja_M_emit_30 rfl ?_
  refine q_aload_n (pc' := 32) ja_M_emit_31 rfl rfl ?_
  refine q_getf (pc' := 35) (v := .int (s1 146 46)) ja_M_emit_32 rfl (by decide) ⟨rfl, by decide⟩ rfl ?_
  refine q_iadd (pc' := 36) ja_M_emit_35 rfl ?_
  refine q_iload_n (pc' := 37) ja_M_emit_36 rfl rfl ?_
  refine q_iast (pc' := 38) ja_M_emit_37 rfl (by decide) (l := 1800) rfl (k2 s1 e1) ?_
  intro s2 e2
  refine q_aload_n (pc' := 39) ja_M_emit_38 rfl rfl ?_
  refine q_dup (pc' := 40) ja_M_emit_39 rfl rfl ?_
  refine q_getf (pc' := 43) (v := .int (s2 146 46)) ja_M_emit_40 rfl (by decide) ⟨rfl, by decide⟩ rfl ?_
  refine q_iconst (pc' := 44) ja_M_emit_43 rfl 1 (by decide) ?_
  refine q_iadd (pc' := 45) ja_M_emit_44 rfl ?_
  refine q_putf (pc' := 48) ja_M_emit_45 rfl (by decide) rfl rfl rfl ?_
  intro s3 e3
  refine q_vret ja_M_emit_48 rfl ?_
  show q_W _ _ _ _ 60 [some (.ref 146), some (.int x1)] [] s3
  refine q_goto ja_M_added_60 ?_
  exact (k3 s1 e1 s2 e2 s3 e3)
set_option maxRecDepth 20000 in
theorem t_M_ask {G : jv_X} {d : Nat} {B : Option Value → jg_H → Prop} {s : jg_H} (a1 : Int32) (a2 : Int32)
    (k1 : a1 < 0 → B (some (.int (-2))) s)
    (k2 : ¬ a1 < 0 → ¬ a1 ≤ ((s 146 0) - 1) → B (some (.int (-2))) s)
    (k3 : ¬ a1 < 0 → a1 ≤ ((s 146 0) - 1) → a2 < 0 → B (some (.int (-2))) s)
    (k4 : ¬ a1 < 0 → a1 ≤ ((s 146 0) - 1) → ¬ a2 < 0 → ¬ a2 ≤ 2 → B (some (.int (-2))) s)
    (k5 : ¬ a1 < 0 → a1 ≤ ((s 146 0) - 1) → ¬ a2 < 0 → a2 ≤ 2 → jv_in a1 15 = true)
    (k6 : ¬ a1 < 0 → a1 ≤ ((s 146 0) - 1) → ¬ a2 < 0 → a2 ≤ 2 → jv_in a1 15 = true)
    (k7 : ¬ a1 < 0 → a1 ≤ ((s 146 0) - 1) → ¬ a2 < 0 → a2 ≤ 2 → ∀ s1 : jg_H, s1 = jg_up s 150 a1.toNatClampNeg a2 → B (some (.int (s 150 a1.toNatClampNeg))) s1) :
    q_P G (d + 3) 159 [.ref 146, .int a1, .int a2] s B := by
  refine q_in (M := jm_M_ask) rfl (Nat.le_of_ble_eq_true rfl) (ls := [some (.ref 146), some (.int a1), some (.int a2), none]) rfl ?_
  refine q_aload_n (pc' := 1) ja_M_ask_0 rfl rfl ?_
  refine q_iload_n (pc' := 2) ja_M_ask_1 rfl rfl ?_
  refine q_virt (pc' := 5) (c := 146) (as := [.int a1]) (r := []) ja_M_ask_2 rfl rfl rfl (by decide) ⟨rfl, by decide⟩ ?_
  refine q_in (M := jm_M_isMember) rfl (Nat.le_of_ble_eq_true rfl) (ls := [some (.ref 146), some (.int a1)]) rfl ?_
  refine q_iload_n (pc' := 1) ja_M_isMember_0 rfl rfl ?_
  refine q_iconst (pc' := 2) ja_M_isMember_1 rfl 0 (by decide) ?_
  refine q_aload_n (pc' := 3) ja_M_isMember_2 rfl rfl ?_
  refine q_getf (pc' := 6) (v := .int (s 146 0)) ja_M_isMember_3 rfl (by decide) ⟨rfl, by decide⟩ rfl ?_
  refine q_iconst (pc' := 7) ja_M_isMember_6 rfl 1 (by decide) ?_
  refine q_isub (pc' := 8) ja_M_isMember_7 rfl ?_
  refine q_stat (pc' := 11) (as := [.int a1, .int 0, .int ((s 146 0) - 1)]) (r := []) ja_M_isMember_8 rfl (by decide) rfl rfl ?_
  refine q_in (M := jm_M_in) rfl (Nat.le_of_ble_eq_true rfl) (ls := [some (.int a1), some (.int 0), some (.int ((s 146 0) - 1))]) rfl ?_
  refine q_iload_n (pc' := 1) ja_M_in_0 rfl rfl ?_
  refine q_iload_n (pc' := 2) ja_M_in_1 rfl rfl ?_
  refine q_ic_lt (pc' := 5) ja_M_in_2 rfl ?_ ?_
  · intro h1
    refine q_iconst (pc' := 15) ja_M_in_14 rfl 0 (by decide) ?_
    refine q_iret ja_M_in_15 rfl (by decide) ?_
    show q_W _ _ _ _ 11 [some (.ref 146), some (.int a1)] [.int 0] s
    refine q_iret ja_M_isMember_11 rfl (by decide) ?_
    show q_W _ _ _ _ 5 [some (.ref 146), some (.int a1), some (.int a2), none] [.int 0] s
    refine q_if_eq (pc' := 8) ja_M_ask_5 rfl (fun _ => ?_) (fun h => absurd ((by decide : (0 : Int32) = 0)) h)
    refine q_bipush (pc' := 19) ja_M_ask_17 rfl (-2) (by decide) ?_
    exact q_iret ja_M_ask_19 rfl rfl (k1 h1)
  · intro h2
    refine q_iload_n (pc' := 6) ja_M_in_5 rfl rfl ?_
    refine q_iload_n (pc' := 7) ja_M_in_6 rfl rfl ?_
    refine q_ic_gt (pc' := 10) ja_M_in_7 rfl ?_ ?_
    · intro h3
      refine q_iconst (pc' := 15) ja_M_in_14 rfl 0 (by decide) ?_
      refine q_iret ja_M_in_15 rfl (by decide) ?_
      show q_W _ _ _ _ 11 [some (.ref 146), some (.int a1)] [.int 0] s
      refine q_iret ja_M_isMember_11 rfl (by decide) ?_
      show q_W _ _ _ _ 5 [some (.ref 146), some (.int a1), some (.int a2), none] [.int 0] s
      refine q_if_eq (pc' := 8) ja_M_ask_5 rfl (fun _ => ?_) (fun h => absurd ((by decide : (0 : Int32) = 0)) h)
      refine q_bipush (pc' := 19) ja_M_ask_17 rfl (-2) (by decide) ?_
      exact q_iret ja_M_ask_19 rfl rfl (k2 h2 h3)
    · intro h4
      refine q_iconst (pc' := 11) ja_M_in_10 rfl 1 (by decide) ?_
      refine q_goto ja_M_in_11 ?_
      refine q_iret ja_M_in_15 rfl (by decide) ?_
      show q_W _ _ _ _ 11 [some (.ref 146), some (.int a1)] [.int 1] s
      refine q_iret ja_M_isMember_11 rfl (by decide) ?_
      show q_W _ _ _ _ 5 [some (.ref 146), some (.int a1), some (.int a2), none] [.int 1] s
      refine q_if_eq (pc' := 8) ja_M_ask_5 rfl (fun h => absurd h ((by decide : ¬ (1 : Int32) = 0))) (fun _ => ?_)
      refine q_iload_n (pc' := 9) ja_M_ask_8 rfl rfl ?_
      refine q_iconst (pc' := 10) ja_M_ask_9 rfl 0 (by decide) ?_
      refine q_iconst (pc' := 11) ja_M_ask_10 rfl 2 (by decide) ?_
      refine q_stat (pc' := 14) (as := [.int a2, .int 0, .int 2]) (r := []) ja_M_ask_11 rfl (by decide) rfl rfl ?_
      refine q_in (M := jm_M_in) rfl (Nat.le_of_ble_eq_true rfl) (ls := [some (.int a2), some (.int 0), some (.int 2)]) rfl ?_
      refine q_iload_n (pc' := 1) ja_M_in_0 rfl rfl ?_
      refine q_iload_n (pc' := 2) ja_M_in_1 rfl rfl ?_
      refine q_ic_lt (pc' := 5) ja_M_in_2 rfl ?_ ?_
      · intro h5
        refine q_iconst (pc' := 15) ja_M_in_14 rfl 0 (by decide) ?_
        refine q_iret ja_M_in_15 rfl (by decide) ?_
        show q_W _ _ _ _ 14 [some (.ref 146), some (.int a1), some (.int a2), none] [.int 0] s
        refine q_if_ne (pc' := 17) ja_M_ask_14 rfl (fun h => absurd ((by decide : (0 : Int32) = 0)) h) (fun _ => ?_)
        refine q_bipush (pc' := 19) ja_M_ask_17 rfl (-2) (by decide) ?_
        exact q_iret ja_M_ask_19 rfl rfl (k3 h2 h4 h5)
      · intro h6
        refine q_iload_n (pc' := 6) ja_M_in_5 rfl rfl ?_
        refine q_iload_n (pc' := 7) ja_M_in_6 rfl rfl ?_
        refine q_ic_gt (pc' := 10) ja_M_in_7 rfl ?_ ?_
        · intro h7
          refine q_iconst (pc' := 15) ja_M_in_14 rfl 0 (by decide) ?_
          refine q_iret ja_M_in_15 rfl (by decide) ?_
          show q_W _ _ _ _ 14 [some (.ref 146), some (.int a1), some (.int a2), none] [.int 0] s
          refine q_if_ne (pc' := 17) ja_M_ask_14 rfl (fun h => absurd ((by decide : (0 : Int32) = 0)) h) (fun _ => ?_)
          refine q_bipush (pc' := 19) ja_M_ask_17 rfl (-2) (by decide) ?_
          exact q_iret ja_M_ask_19 rfl rfl (k4 h2 h4 h6 h7)
        · intro h8
          refine q_iconst (pc' := 11) ja_M_in_10 rfl 1 (by decide) ?_
          refine q_goto ja_M_in_11 ?_
          refine q_iret ja_M_in_15 rfl (by decide) ?_
          show q_W _ _ _ _ 14 [some (.ref 146), some (.int a1), some (.int a2), none] [.int 1] s
          refine q_if_ne (pc' := 17) ja_M_ask_14 rfl (fun _ => ?_) (fun h => absurd h ((by decide : ¬ (1 : Int32) = 0)))
          refine q_aload_n (pc' := 21) ja_M_ask_20 rfl rfl ?_
          refine q_getf (pc' := 24) (v := .ref 150) ja_M_ask_21 rfl (by decide) ⟨rfl, by decide⟩ rfl ?_
          refine q_iload_n (pc' := 25) ja_M_ask_24 rfl rfl ?_
          refine q_iald (pc' := 26) (v := .int (s 150 a1.toNatClampNeg)) ja_M_ask_25 rfl (by decide) (l := 15) rfl (k5 h2 h4 h6 h8) rfl ?_
          refine q_istore_n (pc' := 27) (ls' := [some (.ref 146), some (.int a1), some (.int a2), some (.int (s 150 a1.toNatClampNeg))]) ja_M_ask_26 rfl ⟨Nat.le_of_ble_eq_true rfl, rfl⟩ rfl ?_
          refine q_aload_n (pc' := 28) ja_M_ask_27 rfl rfl ?_
          refine q_getf (pc' := 31) (v := .ref 150) ja_M_ask_28 rfl (by decide) ⟨rfl, by decide⟩ rfl ?_
          refine q_iload_n (pc' := 32) ja_M_ask_31 rfl rfl ?_
          refine q_iload_n (pc' := 33) ja_M_ask_32 rfl rfl ?_
          refine q_iast (pc' := 34) ja_M_ask_33 rfl (by decide) (l := 15) rfl (k6 h2 h4 h6 h8) ?_
          intro s1 e1
          refine q_iload_n (pc' := 35) ja_M_ask_34 rfl rfl ?_
          exact q_iret ja_M_ask_35 rfl rfl (k7 h2 h4 h6 h8 s1 e1)
set_option maxRecDepth 20000 in
theorem t_M_best {G : jv_X} {d : Nat} {B : Option Value → jg_H → Prop} {s : jg_H} (a1 : Int32)
    (k1 : a1 < 0 → B (some (.int (-2))) s)
    (k2 : ¬ a1 < 0 → ¬ a1 ≤ ((s 146 0) - 1) → B (some (.int (-2))) s)
    (k3 : ¬ a1 < 0 → a1 ≤ ((s 146 0) - 1) → ¬ (s 146 13) = (-1) → q_W G (d + 2) jm_M_best B 29 [some (.ref 146), some (.int a1), some (.int (-1)), some (.int 0), some (.int 0), none] [] s)
    (k4 : ¬ a1 < 0 → a1 ≤ ((s 146 0) - 1) → (s 146 13) = (-1) → B (some (.int (-3))) s) :
    q_P G (d + 3) 209 [.ref 146, .int a1] s B := by
  refine q_in (M := jm_M_best) rfl (Nat.le_of_ble_eq_true rfl) (ls := [some (.ref 146), some (.int a1), none, none, none, none]) rfl ?_
  refine q_aload_n (pc' := 1) ja_M_best_0 rfl rfl ?_
  refine q_iload_n (pc' := 2) ja_M_best_1 rfl rfl ?_
  refine q_virt (pc' := 5) (c := 146) (as := [.int a1]) (r := []) ja_M_best_2 rfl rfl rfl (by decide) ⟨rfl, by decide⟩ ?_
  refine q_in (M := jm_M_isMember) rfl (Nat.le_of_ble_eq_true rfl) (ls := [some (.ref 146), some (.int a1)]) rfl ?_
  refine q_iload_n (pc' := 1) ja_M_isMember_0 rfl rfl ?_
  refine q_iconst (pc' := 2) ja_M_isMember_1 rfl 0 (by decide) ?_
  refine q_aload_n (pc' := 3) ja_M_isMember_2 rfl rfl ?_
  refine q_getf (pc' := 6) (v := .int (s 146 0)) ja_M_isMember_3 rfl (by decide) ⟨rfl, by decide⟩ rfl ?_
  refine q_iconst (pc' := 7) ja_M_isMember_6 rfl 1 (by decide) ?_
  refine q_isub (pc' := 8) ja_M_isMember_7 rfl ?_
  refine q_stat (pc' := 11) (as := [.int a1, .int 0, .int ((s 146 0) - 1)]) (r := []) ja_M_isMember_8 rfl (by decide) rfl rfl ?_
  refine q_in (M := jm_M_in) rfl (Nat.le_of_ble_eq_true rfl) (ls := [some (.int a1), some (.int 0), some (.int ((s 146 0) - 1))]) rfl ?_
  refine q_iload_n (pc' := 1) ja_M_in_0 rfl rfl ?_
  refine q_iload_n (pc' := 2) ja_M_in_1 rfl rfl ?_
  refine q_ic_lt (pc' := 5) ja_M_in_2 rfl ?_ ?_
  · intro h1
    refine q_iconst (pc' := 15) ja_M_in_14 rfl 0 (by decide) ?_
    refine q_iret ja_M_in_15 rfl (by decide) ?_
    show q_W _ _ _ _ 11 [some (.ref 146), some (.int a1)] [.int 0] s
    refine q_iret ja_M_isMember_11 rfl (by decide) ?_
    show q_W _ _ _ _ 5 [some (.ref 146), some (.int a1), none, none, none, none] [.int 0] s
    refine q_if_ne (pc' := 8) ja_M_best_5 rfl (fun h => absurd ((by decide : (0 : Int32) = 0)) h) (fun _ => ?_)
    refine q_bipush (pc' := 10) ja_M_best_8 rfl (-2) (by decide) ?_
    exact q_iret ja_M_best_10 rfl rfl (k1 h1)
  · intro h2
    refine q_iload_n (pc' := 6) ja_M_in_5 rfl rfl ?_
    refine q_iload_n (pc' := 7) ja_M_in_6 rfl rfl ?_
    refine q_ic_gt (pc' := 10) ja_M_in_7 rfl ?_ ?_
    · intro h3
      refine q_iconst (pc' := 15) ja_M_in_14 rfl 0 (by decide) ?_
      refine q_iret ja_M_in_15 rfl (by decide) ?_
      show q_W _ _ _ _ 11 [some (.ref 146), some (.int a1)] [.int 0] s
      refine q_iret ja_M_isMember_11 rfl (by decide) ?_
      show q_W _ _ _ _ 5 [some (.ref 146), some (.int a1), none, none, none, none] [.int 0] s
      refine q_if_ne (pc' := 8) ja_M_best_5 rfl (fun h => absurd ((by decide : (0 : Int32) = 0)) h) (fun _ => ?_)
      refine q_bipush (pc' := 10) ja_M_best_8 rfl (-2) (by decide) ?_
      exact q_iret ja_M_best_10 rfl rfl (k2 h2 h3)
    · intro h4
      refine q_iconst (pc' := 11) ja_M_in_10 rfl 1 (by decide) ?_
      refine q_goto ja_M_in_11 ?_
      refine q_iret ja_M_in_15 rfl (by decide) ?_
      show q_W _ _ _ _ 11 [some (.ref 146), some (.int a1)] [.int 1] s
      refine q_iret ja_M_isMember_11 rfl (by decide) ?_
      show q_W _ _ _ _ 5 [some (.ref 146), some (.int a1), none, none, none, none] [.int 1] s
      refine q_if_ne (pc' := 8) ja_M_best_5 rfl (fun _ => ?_) (fun h => absurd h ((by decide : ¬ (1 : Int32) = 0)))
      refine q_aload_n (pc' := 12) ja_M_best_11 rfl rfl ?_
      refine q_getf (pc' := 15) (v := .int (s 146 13)) ja_M_best_12 rfl (by decide) ⟨rfl, by decide⟩ rfl ?_
      refine q_iconst (pc' := 16) ja_M_best_15 rfl (-1) (by decide) ?_
      refine q_ic_ne (pc' := 19) ja_M_best_16 rfl ?_ ?_
      · intro h5
        refine q_iconst (pc' := 23) ja_M_best_22 rfl (-1) (by decide) ?_
        refine q_istore_n (pc' := 24) (ls' := [some (.ref 146), some (.int a1), some (.int (-1)), none, none, none]) ja_M_best_23 rfl ⟨Nat.le_of_ble_eq_true rfl, rfl⟩ rfl ?_
        refine q_iconst (pc' := 25) ja_M_best_24 rfl 0 (by decide) ?_
        refine q_istore_n (pc' := 26) (ls' := [some (.ref 146), some (.int a1), some (.int (-1)), some (.int 0), none, none]) ja_M_best_25 rfl ⟨Nat.le_of_ble_eq_true rfl, rfl⟩ rfl ?_
        refine q_iconst (pc' := 27) ja_M_best_26 rfl 0 (by decide) ?_
        refine q_istore (pc' := 29) (ls' := [some (.ref 146), some (.int a1), some (.int (-1)), some (.int 0), some (.int 0), none]) ja_M_best_27 rfl ⟨Nat.le_of_ble_eq_true rfl, rfl⟩ rfl ?_
        exact (k3 h2 h4 h5)
      · intro h6
        refine q_bipush (pc' := 21) ja_M_best_19 rfl (-3) (by decide) ?_
        exact q_iret ja_M_best_21 rfl rfl (k4 h2 h4 h6)
set_option maxRecDepth 20000 in
theorem t_M_best_29 {G : jv_X} {d : Nat} {B : Option Value → jg_H → Prop} {s : jg_H} (x1 : Int32) (x2 : Int32) (x3 : Int32) (x4 : Int32) {o5 : Option Value} (ho5 : f_n o5 = true)
    (k1 : ¬ x4 < 7776 → B (some (.int x2)) s)
    (k2 : x4 < 7776 → q_P G (d + 2) 207 [.ref 146, .int x4] s (fun v t => q_W G (d + 2) jm_M_best B 43 [some (.ref 146), some (.int x1), some (.int x2), some (.int x3), some (.int x4), o5] (v.toList ++ []) t)) :
    q_W G (d + 2) jm_M_best B 29 [some (.ref 146), some (.int x1), some (.int x2), some (.int x3), some (.int x4), o5] [] s := by
  refine q_iload (pc' := 31) ja_M_best_29 rfl rfl ?_
  refine q_sipush (pc' := 34) ja_M_best_31 rfl 7776 (by decide) ?_
  refine q_ic_ge (pc' := 37) ja_M_best_34 rfl ?_ ?_
  · intro h1
    refine q_iload_n (pc' := 83) ja_M_best_82 rfl rfl ?_
    exact q_iret ja_M_best_83 rfl rfl (k1 h1)
  · intro h2
    refine q_aload_n (pc' := 38) ja_M_best_37 rfl rfl ?_
    refine q_iload (pc' := 40) ja_M_best_38 rfl rfl ?_
    refine q_virt (pc' := 43) (c := 146) (as := [.int x4]) (r := []) ja_M_best_40 rfl rfl rfl (by decide) ⟨rfl, by decide⟩ ?_
    exact (k2 h2)
set_option maxRecDepth 20000 in
theorem t_M_best_43 {G : jv_X} {d : Nat} {B : Option Value → jg_H → Prop} {s : jg_H} (x1 : Int32) (x2 : Int32) (x3 : Int32) (x4 : Int32) {o5 : Option Value} (ho5 : f_n o5 = true) (y0 : Int32)
    (k1 : y0 = 0 → q_W G (d + 2) jm_M_best B 29 [some (.ref 146), some (.int x1), some (.int x2), some (.int x3), some (.int (x4 + 1)), o5] [] s)
    (k2 : ¬ y0 = 0 → q_P G (d + 2) 208 [.ref 146, .int x4] s (fun v t => q_W G (d + 2) jm_M_best B 52 [some (.ref 146), some (.int x1), some (.int x2), some (.int x3), some (.int x4), o5] (v.toList ++ []) t)) :
    q_W G (d + 2) jm_M_best B 43 [some (.ref 146), some (.int x1), some (.int x2), some (.int x3), some (.int x4), o5] [.int y0] s := by
  refine q_if_eq (pc' := 46) ja_M_best_43 rfl ?_ ?_
  · intro h1
    refine q_iinc (pc' := 79) (ls' := [some (.ref 146), some (.int x1), some (.int x2), some (.int x3), some (.int (x4 + 1)), o5]) ja_M_best_76 rfl rfl (x4 + 1) rfl ⟨Nat.le_of_ble_eq_true rfl, rfl⟩ rfl ?_
    refine q_goto ja_M_best_79 ?_
    exact (k1 h1)
  · intro h2
    refine q_aload_n (pc' := 47) ja_M_best_46 rfl rfl ?_
    refine q_iload (pc' := 49) ja_M_best_47 rfl rfl ?_
    refine q_virt (pc' := 52) (c := 146) (as := [.int x4]) (r := []) ja_M_best_49 rfl rfl rfl (by decide) ⟨rfl, by decide⟩ ?_
    exact (k2 h2)
set_option maxRecDepth 20000 in
theorem t_M_best_52 {G : jv_X} {d : Nat} {B : Option Value → jg_H → Prop} {s : jg_H} (x1 : Int32) (x2 : Int32) (x3 : Int32) (x4 : Int32) {o5 : Option Value} (ho5 : f_n o5 = true)
    (k1 : q_P G (d + 2) 170 [.ref 146, .int x1] s (fun v t => q_W G (d + 2) jm_M_best B 57 [some (.ref 146), some (.int x1), some (.int x2), some (.int x3), some (.int x4), o5] (v.toList ++ []) t)) :
    q_W G (d + 2) jm_M_best B 52 [some (.ref 146), some (.int x1), some (.int x2), some (.int x3), some (.int x4), o5] [] s := by
  refine q_aload_n (pc' := 53) ja_M_best_52 rfl rfl ?_
  refine q_iload_n (pc' := 54) ja_M_best_53 rfl rfl ?_
  refine q_virt (pc' := 57) (c := 146) (as := [.int x1]) (r := []) ja_M_best_54 rfl rfl rfl (by decide) ⟨rfl, by decide⟩ ?_
  exact k1
set_option maxRecDepth 20000 in
theorem t_M_best_57 {G : jv_X} {d : Nat} {B : Option Value → jg_H → Prop} {s : jg_H} (x1 : Int32) (x2 : Int32) (x3 : Int32) (x4 : Int32) {o5 : Option Value} (ho5 : f_n o5 = true) (y0 : Int32)
    (k1 : x2 = (-1) → q_W G (d + 2) jm_M_best B 29 [some (.ref 146), some (.int x1), some (.int x4), some (.int y0), some (.int (x4 + 1)), some (.int y0)] [] s)
    (k2 : ¬ x2 = (-1) → y0 ≤ x3 → q_W G (d + 2) jm_M_best B 29 [some (.ref 146), some (.int x1), some (.int x2), some (.int x3), some (.int (x4 + 1)), some (.int y0)] [] s)
    (k3 : ¬ x2 = (-1) → ¬ y0 ≤ x3 → q_W G (d + 2) jm_M_best B 29 [some (.ref 146), some (.int x1), some (.int x4), some (.int y0), some (.int (x4 + 1)), some (.int y0)] [] s) :
    q_W G (d + 2) jm_M_best B 57 [some (.ref 146), some (.int x1), some (.int x2), some (.int x3), some (.int x4), o5] [.int y0] s := by
  refine q_istore (pc' := 59) (ls' := [some (.ref 146), some (.int x1), some (.int x2), some (.int x3), some (.int x4), some (.int y0)]) ja_M_best_57 rfl ⟨Nat.le_of_ble_eq_true rfl, rfl⟩ rfl ?_
  refine q_iload_n (pc' := 60) ja_M_best_59 rfl rfl ?_
  refine q_iconst (pc' := 61) ja_M_best_60 rfl (-1) (by decide) ?_
  refine q_ic_eq (pc' := 64) ja_M_best_61 rfl ?_ ?_
  · intro h1
    refine q_iload (pc' := 72) ja_M_best_70 rfl rfl ?_
    refine q_istore_n (pc' := 73) (ls' := [some (.ref 146), some (.int x1), some (.int x4), some (.int x3), some (.int x4), some (.int y0)]) ja_M_best_72 rfl ⟨Nat.le_of_ble_eq_true rfl, rfl⟩ rfl ?_
    refine q_iload (pc' := 75) ja_M_best_73 rfl rfl ?_
    refine q_istore_n (pc' := 76) (ls' := [some (.ref 146), some (.int x1), some (.int x4), some (.int y0), some (.int x4), some (.int y0)]) ja_M_best_75 rfl ⟨Nat.le_of_ble_eq_true rfl, rfl⟩ rfl ?_
    refine q_iinc (pc' := 79) (ls' := [some (.ref 146), some (.int x1), some (.int x4), some (.int y0), some (.int (x4 + 1)), some (.int y0)]) ja_M_best_76 rfl rfl (x4 + 1) rfl ⟨Nat.le_of_ble_eq_true rfl, rfl⟩ rfl ?_
    refine q_goto ja_M_best_79 ?_
    exact (k1 h1)
  · intro h2
    refine q_iload (pc' := 66) ja_M_best_64 rfl rfl ?_
    refine q_iload_n (pc' := 67) ja_M_best_66 rfl rfl ?_
    refine q_ic_le (pc' := 70) ja_M_best_67 rfl ?_ ?_
    · intro h3
      refine q_iinc (pc' := 79) (ls' := [some (.ref 146), some (.int x1), some (.int x2), some (.int x3), some (.int (x4 + 1)), some (.int y0)]) ja_M_best_76 rfl rfl (x4 + 1) rfl ⟨Nat.le_of_ble_eq_true rfl, rfl⟩ rfl ?_
      refine q_goto ja_M_best_79 ?_
      exact (k2 h2 h3)
    · intro h4
      refine q_iload (pc' := 72) ja_M_best_70 rfl rfl ?_
      refine q_istore_n (pc' := 73) (ls' := [some (.ref 146), some (.int x1), some (.int x4), some (.int x3), some (.int x4), some (.int y0)]) ja_M_best_72 rfl ⟨Nat.le_of_ble_eq_true rfl, rfl⟩ rfl ?_
      refine q_iload (pc' := 75) ja_M_best_73 rfl rfl ?_
      refine q_istore_n (pc' := 76) (ls' := [some (.ref 146), some (.int x1), some (.int x4), some (.int y0), some (.int x4), some (.int y0)]) ja_M_best_75 rfl ⟨Nat.le_of_ble_eq_true rfl, rfl⟩ rfl ?_
      refine q_iinc (pc' := 79) (ls' := [some (.ref 146), some (.int x1), some (.int x4), some (.int y0), some (.int (x4 + 1)), some (.int y0)]) ja_M_best_76 rfl rfl (x4 + 1) rfl ⟨Nat.le_of_ble_eq_true rfl, rfl⟩ rfl ?_
      refine q_goto ja_M_best_79 ?_
      exact (k3 h2 h4)
set_option maxRecDepth 20000 in
theorem t_M_bill {G : jv_X} {d : Nat} {B : Option Value → jg_H → Prop} {s : jg_H} 
    (k1 : ¬ (s 146 6) = 8 → ∀ s1 : jg_H, s1 = jg_up s 146 6 ((s 146 6) + 1) → B (some (.int ((s1 146 6) - 1))) s1)
    (k2 : (s 146 6) = 8 → B (some (.int (-4))) s) :
    q_P G (d + 1) 161 [.ref 146] s B := by
  refine q_in (M := jm_M_bill) rfl (Nat.le_of_ble_eq_true rfl) (ls := [some (.ref 146)]) rfl ?_
  refine q_aload_n (pc' := 1) ja_M_bill_0 rfl rfl ?_
  refine q_getf (pc' := 4) (v := .int (s 146 6)) ja_M_bill_1 rfl (by decide) ⟨rfl, by decide⟩ rfl ?_
  refine q_bipush (pc' := 6) ja_M_bill_4 rfl 8 (by decide) ?_
  refine q_ic_ne (pc' := 9) ja_M_bill_6 rfl ?_ ?_
  · intro h1
    refine q_aload_n (pc' := 13) ja_M_bill_12 rfl rfl ?_
    refine q_dup (pc' := 14) ja_M_bill_13 rfl rfl ?_
    refine q_getf (pc' := 17) (v := .int (s 146 6)) ja_M_bill_14 rfl (by decide) ⟨rfl, by decide⟩ rfl ?_
    refine q_iconst (pc' := 18) ja_M_bill_17 rfl 1 (by decide) ?_
    refine q_iadd (pc' := 19) ja_M_bill_18 rfl ?_
    refine q_putf (pc' := 22) ja_M_bill_19 rfl (by decide) rfl rfl rfl ?_
    intro s1 e1
    refine q_aload_n (pc' := 23) ja_M_bill_22 rfl rfl ?_
    refine q_getf (pc' := 26) (v := .int (s1 146 6)) ja_M_bill_23 rfl (by decide) ⟨rfl, by decide⟩ rfl ?_
    refine q_iconst (pc' := 27) ja_M_bill_26 rfl 1 (by decide) ?_
    refine q_isub (pc' := 28) ja_M_bill_27 rfl ?_
    exact q_iret ja_M_bill_28 rfl rfl (k1 h1 s1 e1)
  · intro h2
    refine q_bipush (pc' := 11) ja_M_bill_9 rfl (-4) (by decide) ?_
    exact q_iret ja_M_bill_11 rfl rfl (k2 h2)
set_option maxRecDepth 20000 in
theorem t_M_billTold {G : jv_X} {d : Nat} {B : Option Value → jg_H → Prop} {s : jg_H} (a1 : Int32) (a2 : Int32)
    (k1 : a1 < 0 → B (some (.int (-2))) s)
    (k2 : ¬ a1 < 0 → ¬ a1 ≤ ((s 146 6) - 1) → B (some (.int (-2))) s)
    (k3 : ¬ a1 < 0 → a1 ≤ ((s 146 6) - 1) → a2 < 0 → B (some (.int (-2))) s)
    (k4 : ¬ a1 < 0 → a1 ≤ ((s 146 6) - 1) → ¬ a2 < 0 → ¬ a2 ≤ 3 → B (some (.int (-2))) s)
    (k5 : ¬ a1 < 0 → a1 ≤ ((s 146 6) - 1) → ¬ a2 < 0 → a2 ≤ 3 → ¬ a2 = 0 → ¬ a2 = 1 → ¬ a2 = 2 → jv_in a1 8 = true)
    (k6 : ¬ a1 < 0 → a1 ≤ ((s 146 6) - 1) → ¬ a2 < 0 → a2 ≤ 3 → ¬ a2 = 0 → ¬ a2 = 1 → ¬ a2 = 2 → q_P G (d + 2) 166 [.int (s 155 a1.toNatClampNeg)] s (fun v t => q_W G (d + 2) jm_M_billTold B 69 [some (.ref 146), some (.int a1), some (.int a2)] (v.toList ++ []) t))
    (k7 : ¬ a1 < 0 → a1 ≤ ((s 146 6) - 1) → ¬ a2 < 0 → a2 ≤ 3 → ¬ a2 = 0 → ¬ a2 = 1 → a2 = 2 → q_P G (d + 2) 165 [.ref 146, .int a1] s (fun v t => q_W G (d + 2) jm_M_billTold B 57 [some (.ref 146), some (.int a1), some (.int a2)] (v.toList ++ []) t))
    (k8 : ¬ a1 < 0 → a1 ≤ ((s 146 6) - 1) → ¬ a2 < 0 → a2 ≤ 3 → ¬ a2 = 0 → a2 = 1 → jv_in a1 8 = true)
    (k9 : ¬ a1 < 0 → a1 ≤ ((s 146 6) - 1) → ¬ a2 < 0 → a2 ≤ 3 → ¬ a2 = 0 → a2 = 1 → B (some (.int (s 153 a1.toNatClampNeg))) s)
    (k10 : ¬ a1 < 0 → a1 ≤ ((s 146 6) - 1) → ¬ a2 < 0 → a2 ≤ 3 → a2 = 0 → jv_in a1 8 = true)
    (k11 : ¬ a1 < 0 → a1 ≤ ((s 146 6) - 1) → ¬ a2 < 0 → a2 ≤ 3 → a2 = 0 → B (some (.int (s 152 a1.toNatClampNeg))) s) :
    q_P G (d + 3) 164 [.ref 146, .int a1, .int a2] s B := by
  refine q_in (M := jm_M_billTold) rfl (Nat.le_of_ble_eq_true rfl) (ls := [some (.ref 146), some (.int a1), some (.int a2)]) rfl ?_
  refine q_aload_n (pc' := 1) ja_M_billTold_0 rfl rfl ?_
  refine q_iload_n (pc' := 2) ja_M_billTold_1 rfl rfl ?_
  refine q_virt (pc' := 5) (c := 146) (as := [.int a1]) (r := []) ja_M_billTold_2 rfl rfl rfl (by decide) ⟨rfl, by decide⟩ ?_
  refine q_in (M := jm_M_isBill) rfl (Nat.le_of_ble_eq_true rfl) (ls := [some (.ref 146), some (.int a1)]) rfl ?_
  refine q_iload_n (pc' := 1) ja_M_isBill_0 rfl rfl ?_
  refine q_iconst (pc' := 2) ja_M_isBill_1 rfl 0 (by decide) ?_
  refine q_aload_n (pc' := 3) ja_M_isBill_2 rfl rfl ?_
  refine q_getf (pc' := 6) (v := .int (s 146 6)) ja_M_isBill_3 rfl (by decide) ⟨rfl, by decide⟩ rfl ?_
  refine q_iconst (pc' := 7) ja_M_isBill_6 rfl 1 (by decide) ?_
  refine q_isub (pc' := 8) ja_M_isBill_7 rfl ?_
  refine q_stat (pc' := 11) (as := [.int a1, .int 0, .int ((s 146 6) - 1)]) (r := []) ja_M_isBill_8 rfl (by decide) rfl rfl ?_
  refine q_in (M := jm_M_in) rfl (Nat.le_of_ble_eq_true rfl) (ls := [some (.int a1), some (.int 0), some (.int ((s 146 6) - 1))]) rfl ?_
  refine q_iload_n (pc' := 1) ja_M_in_0 rfl rfl ?_
  refine q_iload_n (pc' := 2) ja_M_in_1 rfl rfl ?_
  refine q_ic_lt (pc' := 5) ja_M_in_2 rfl ?_ ?_
  · intro h1
    refine q_iconst (pc' := 15) ja_M_in_14 rfl 0 (by decide) ?_
    refine q_iret ja_M_in_15 rfl (by decide) ?_
    show q_W _ _ _ _ 11 [some (.ref 146), some (.int a1)] [.int 0] s
    refine q_iret ja_M_isBill_11 rfl (by decide) ?_
    show q_W _ _ _ _ 5 [some (.ref 146), some (.int a1), some (.int a2)] [.int 0] s
    refine q_if_eq (pc' := 8) ja_M_billTold_5 rfl (fun _ => ?_) (fun h => absurd ((by decide : (0 : Int32) = 0)) h)
    refine q_bipush (pc' := 19) ja_M_billTold_17 rfl (-2) (by decide) ?_
    exact q_iret ja_M_billTold_19 rfl rfl (k1 h1)
  · intro h2
    refine q_iload_n (pc' := 6) ja_M_in_5 rfl rfl ?_
    refine q_iload_n (pc' := 7) ja_M_in_6 rfl rfl ?_
    refine q_ic_gt (pc' := 10) ja_M_in_7 rfl ?_ ?_
    · intro h3
      refine q_iconst (pc' := 15) ja_M_in_14 rfl 0 (by decide) ?_
      refine q_iret ja_M_in_15 rfl (by decide) ?_
      show q_W _ _ _ _ 11 [some (.ref 146), some (.int a1)] [.int 0] s
      refine q_iret ja_M_isBill_11 rfl (by decide) ?_
      show q_W _ _ _ _ 5 [some (.ref 146), some (.int a1), some (.int a2)] [.int 0] s
      refine q_if_eq (pc' := 8) ja_M_billTold_5 rfl (fun _ => ?_) (fun h => absurd ((by decide : (0 : Int32) = 0)) h)
      refine q_bipush (pc' := 19) ja_M_billTold_17 rfl (-2) (by decide) ?_
      exact q_iret ja_M_billTold_19 rfl rfl (k2 h2 h3)
    · intro h4
      refine q_iconst (pc' := 11) ja_M_in_10 rfl 1 (by decide) ?_
      refine q_goto ja_M_in_11 ?_
      refine q_iret ja_M_in_15 rfl (by decide) ?_
      show q_W _ _ _ _ 11 [some (.ref 146), some (.int a1)] [.int 1] s
      refine q_iret ja_M_isBill_11 rfl (by decide) ?_
      show q_W _ _ _ _ 5 [some (.ref 146), some (.int a1), some (.int a2)] [.int 1] s
      refine q_if_eq (pc' := 8) ja_M_billTold_5 rfl (fun h => absurd h ((by decide : ¬ (1 : Int32) = 0))) (fun _ => ?_)
      refine q_iload_n (pc' := 9) ja_M_billTold_8 rfl rfl ?_
      refine q_iconst (pc' := 10) ja_M_billTold_9 rfl 0 (by decide) ?_
      refine q_iconst (pc' := 11) ja_M_billTold_10 rfl 3 (by decide) ?_
      refine q_stat (pc' := 14) (as := [.int a2, .int 0, .int 3]) (r := []) ja_M_billTold_11 rfl (by decide) rfl rfl ?_
      refine q_in (M := jm_M_in) rfl (Nat.le_of_ble_eq_true rfl) (ls := [some (.int a2), some (.int 0), some (.int 3)]) rfl ?_
      refine q_iload_n (pc' := 1) ja_M_in_0 rfl rfl ?_
      refine q_iload_n (pc' := 2) ja_M_in_1 rfl rfl ?_
      refine q_ic_lt (pc' := 5) ja_M_in_2 rfl ?_ ?_
      · intro h5
        refine q_iconst (pc' := 15) ja_M_in_14 rfl 0 (by decide) ?_
        refine q_iret ja_M_in_15 rfl (by decide) ?_
        show q_W _ _ _ _ 14 [some (.ref 146), some (.int a1), some (.int a2)] [.int 0] s
        refine q_if_ne (pc' := 17) ja_M_billTold_14 rfl (fun h => absurd ((by decide : (0 : Int32) = 0)) h) (fun _ => ?_)
        refine q_bipush (pc' := 19) ja_M_billTold_17 rfl (-2) (by decide) ?_
        exact q_iret ja_M_billTold_19 rfl rfl (k3 h2 h4 h5)
      · intro h6
        refine q_iload_n (pc' := 6) ja_M_in_5 rfl rfl ?_
        refine q_iload_n (pc' := 7) ja_M_in_6 rfl rfl ?_
        refine q_ic_gt (pc' := 10) ja_M_in_7 rfl ?_ ?_
        · intro h7
          refine q_iconst (pc' := 15) ja_M_in_14 rfl 0 (by decide) ?_
          refine q_iret ja_M_in_15 rfl (by decide) ?_
          show q_W _ _ _ _ 14 [some (.ref 146), some (.int a1), some (.int a2)] [.int 0] s
          refine q_if_ne (pc' := 17) ja_M_billTold_14 rfl (fun h => absurd ((by decide : (0 : Int32) = 0)) h) (fun _ => ?_)
          refine q_bipush (pc' := 19) ja_M_billTold_17 rfl (-2) (by decide) ?_
          exact q_iret ja_M_billTold_19 rfl rfl (k4 h2 h4 h6 h7)
        · intro h8
          refine q_iconst (pc' := 11) ja_M_in_10 rfl 1 (by decide) ?_
          refine q_goto ja_M_in_11 ?_
          refine q_iret ja_M_in_15 rfl (by decide) ?_
          show q_W _ _ _ _ 14 [some (.ref 146), some (.int a1), some (.int a2)] [.int 1] s
          refine q_if_ne (pc' := 17) ja_M_billTold_14 rfl (fun _ => ?_) (fun h => absurd h ((by decide : ¬ (1 : Int32) = 0)))
          refine q_iload_n (pc' := 21) ja_M_billTold_20 rfl rfl ?_
          refine q_if_ne (pc' := 24) ja_M_billTold_21 rfl ?_ ?_
          · intro h9
            refine q_iload_n (pc' := 34) ja_M_billTold_33 rfl rfl ?_
            refine q_iconst (pc' := 35) ja_M_billTold_34 rfl 1 (by decide) ?_
            refine q_ic_ne (pc' := 38) ja_M_billTold_35 rfl ?_ ?_
            · intro h10
              refine q_iload_n (pc' := 48) ja_M_billTold_47 rfl rfl ?_
              refine q_iconst (pc' := 49) ja_M_billTold_48 rfl 2 (by decide) ?_
              refine q_ic_ne (pc' := 52) ja_M_billTold_49 rfl ?_ ?_
              · intro h11
                refine q_aload_n (pc' := 61) ja_M_billTold_60 rfl rfl ?_
                refine q_getf (pc' := 64) (v := .ref 155) ja_M_billTold_61 rfl (by decide) ⟨rfl, by decide⟩ rfl ?_
                refine q_iload_n (pc' := 65) ja_M_billTold_64 rfl rfl ?_
                refine q_iald (pc' := 66) (v := .int (s 155 a1.toNatClampNeg)) ja_M_billTold_65 rfl (by decide) (l := 8) rfl (k5 h2 h4 h6 h8 h9 h10 h11) rfl ?_
                refine q_stat (pc' := 69) (as := [.int (s 155 a1.toNatClampNeg)]) (r := []) ja_M_billTold_66 rfl (by decide) rfl rfl ?_
                exact (k6 h2 h4 h6 h8 h9 h10 h11)
              · intro h12
                refine q_aload_n (pc' := 53) ja_M_billTold_52 rfl rfl ?_
                refine q_iload_n (pc' := 54) ja_M_billTold_53 rfl rfl ?_
                refine q_virt (pc' := 57) (c := 146) (as := [.int a1]) (r := []) ja_M_billTold_54 rfl rfl rfl (by decide) ⟨rfl, by decide⟩ ?_
                exact (k7 h2 h4 h6 h8 h9 h10 h12)
            · intro h13
              refine q_aload_n (pc' := 39) ja_M_billTold_38 rfl rfl ?_
              refine q_getf (pc' := 42) (v := .ref 153) ja_M_billTold_39 rfl (by decide) ⟨rfl, by decide⟩ rfl ?_
              refine q_iload_n (pc' := 43) ja_M_billTold_42 rfl rfl ?_
              refine q_iald (pc' := 44) (v := .int (s 153 a1.toNatClampNeg)) ja_M_billTold_43 rfl (by decide) (l := 8) rfl (k8 h2 h4 h6 h8 h9 h13) rfl ?_
              refine q_goto ja_M_billTold_44 ?_
              exact q_iret ja_M_billTold_69 rfl rfl (k9 h2 h4 h6 h8 h9 h13)
          · intro h14
            refine q_aload_n (pc' := 25) ja_M_billTold_24 rfl rfl ?_
            refine q_getf (pc' := 28) (v := .ref 152) ja_M_billTold_25 rfl (by decide) ⟨rfl, by decide⟩ rfl ?_
            refine q_iload_n (pc' := 29) ja_M_billTold_28 rfl rfl ?_
            refine q_iald (pc' := 30) (v := .int (s 152 a1.toNatClampNeg)) ja_M_billTold_29 rfl (by decide) (l := 8) rfl (k10 h2 h4 h6 h8 h14) rfl ?_
            refine q_goto ja_M_billTold_30 ?_
            exact q_iret ja_M_billTold_69 rfl rfl (k11 h2 h4 h6 h8 h14)
set_option maxRecDepth 20000 in
theorem t_M_billTold_57 {G : jv_X} {d : Nat} {B : Option Value → jg_H → Prop} {s : jg_H} (x1 : Int32) (x2 : Int32) (y0 : Int32)
    (k1 : B (some (.int y0)) s) :
    q_W G (d + 2) jm_M_billTold B 57 [some (.ref 146), some (.int x1), some (.int x2)] [.int y0] s := by
  refine q_goto ja_M_billTold_57 ?_
  exact q_iret ja_M_billTold_69 rfl rfl k1
set_option maxRecDepth 20000 in
theorem t_M_billTold_69 {G : jv_X} {d : Nat} {B : Option Value → jg_H → Prop} {s : jg_H} (x1 : Int32) (x2 : Int32) (y0 : Int32)
    (k1 : B (some (.int y0)) s) :
    q_W G (d + 2) jm_M_billTold B 69 [some (.ref 146), some (.int x1), some (.int x2)] [.int y0] s := by
  exact q_iret ja_M_billTold_69 rfl rfl k1
set_option maxRecDepth 20000 in
theorem t_M_bits {G : jv_X} {d : Nat} {B : Option Value → jg_H → Prop} {s : jg_H} (a1 : Int32)
    (k1 : q_W G d jm_M_bits B 4 [some (.int a1), some (.int 0), some (.int 0)] [] s) :
    q_P G (d + 1) 166 [.int a1] s B := by
  refine q_in (M := jm_M_bits) rfl (Nat.le_of_ble_eq_true rfl) (ls := [some (.int a1), none, none]) rfl ?_
  refine q_iconst (pc' := 1) ja_M_bits_0 rfl 0 (by decide) ?_
  refine q_istore_n (pc' := 2) (ls' := [some (.int a1), some (.int 0), none]) ja_M_bits_1 rfl ⟨Nat.le_of_ble_eq_true rfl, rfl⟩ rfl ?_
  refine q_iconst (pc' := 3) ja_M_bits_2 rfl 0 (by decide) ?_
  refine q_istore_n (pc' := 4) (ls' := [some (.int a1), some (.int 0), some (.int 0)]) ja_M_bits_3 rfl ⟨Nat.le_of_ble_eq_true rfl, rfl⟩ rfl ?_
  exact k1
set_option maxRecDepth 20000 in
theorem t_M_bits_4 {G : jv_X} {d : Nat} {B : Option Value → jg_H → Prop} {s : jg_H} (x0 : Int32) (x1 : Int32) (x2 : Int32)
    (k1 : ¬ x2 < 15 → B (some (.int x1)) s)
    (k2 : x2 < 15 → q_W G d jm_M_bits B 4 [some (.int x0), some (.int (x1 + ((x0 >>> (x2 &&& 31)) &&& 1))), some (.int (x2 + 1))] [] s) :
    q_W G d jm_M_bits B 4 [some (.int x0), some (.int x1), some (.int x2)] [] s := by
  refine q_iload_n (pc' := 5) ja_M_bits_4 rfl rfl ?_
  refine q_bipush (pc' := 7) ja_M_bits_5 rfl 15 (by decide) ?_
  refine q_ic_ge (pc' := 10) ja_M_bits_7 rfl ?_ ?_
  · intro h1
    refine q_iload_n (pc' := 25) ja_M_bits_24 rfl rfl ?_
    exact q_iret ja_M_bits_25 rfl rfl (k1 h1)
  · intro h2
    refine q_iload_n (pc' := 11) ja_M_bits_10 rfl rfl ?_
    refine q_iload_n (pc' := 12) ja_M_bits_11 rfl rfl ?_
    refine q_iload_n (pc' := 13) ja_M_bits_12 rfl rfl ?_
    refine q_ishr (pc' := 14) ja_M_bits_13 rfl ?_
    refine q_iconst (pc' := 15) ja_M_bits_14 rfl 1 (by decide) ?_
    refine q_iand (pc' := 16) ja_M_bits_15 rfl ?_
    refine q_iadd (pc' := 17) ja_M_bits_16 rfl ?_
    refine q_istore_n (pc' := 18) (ls' := [some (.int x0), some (.int (x1 + ((x0 >>> (x2 &&& 31)) &&& 1))), some (.int x2)]) ja_M_bits_17 rfl ⟨Nat.le_of_ble_eq_true rfl, rfl⟩ rfl ?_
    refine q_iinc (pc' := 21) (ls' := [some (.int x0), some (.int (x1 + ((x0 >>> (x2 &&& 31)) &&& 1))), some (.int (x2 + 1))]) ja_M_bits_18 rfl rfl (x2 + 1) rfl ⟨Nat.le_of_ble_eq_true rfl, rfl⟩ rfl ?_
    refine q_goto ja_M_bits_21 ?_
    exact (k2 h2)
set_option maxRecDepth 20000 in
theorem t_M_both {G : jv_X} {d : Nat} {B : Option Value → jg_H → Prop} {s : jg_H} 
    (k1 : q_P G (d + 1) 145 [.ref 146] s (fun v t => q_W G (d + 1) jm_M_both B 4 [some (.ref 146)] (v.toList ++ []) t)) :
    q_P G (d + 2) 144 [.ref 146] s B := by
  refine q_in (M := jm_M_both) rfl (Nat.le_of_ble_eq_true rfl) (ls := [some (.ref 146)]) rfl ?_
  refine q_aload_n (pc' := 1) ja_M_both_0 rfl rfl ?_
  refine q_virt (pc' := 4) (c := 146) (as := []) (r := []) ja_M_both_1 rfl rfl rfl (by decide) ⟨rfl, by decide⟩ ?_
  exact k1
set_option maxRecDepth 20000 in
theorem t_M_both_4 {G : jv_X} {d : Nat} {B : Option Value → jg_H → Prop} {s : jg_H} 
    (k1 : (s 146 44) = (-1) → ¬ (s 146 42) = 305 → B none s)
    (k2 : (s 146 44) = (-1) → (s 146 42) = 305 → q_P G (d + 1) 134 [.ref 146] s (fun v t => q_W G (d + 1) jm_M_both B 25 [some (.ref 146)] (v.toList ++ []) t))
    (k3 : ¬ (s 146 44) = (-1) → B none s) :
    q_W G (d + 1) jm_M_both B 4 [some (.ref 146)] [] s := by
  refine q_aload_n (pc' := 5) ja_M_both_4 rfl rfl ?_
  refine q_virt (pc' := 8) (c := 146) (as := []) (r := []) ja_M_both_5 rfl rfl rfl (by decide) ⟨rfl, by decide⟩ ?_
  refine q_in (M := jm_M_isWrong) rfl (Nat.le_of_ble_eq_true rfl) (ls := [some (.ref 146)]) rfl ?_
  refine q_aload_n (pc' := 1) ja_M_isWrong_0 rfl rfl ?_
  refine q_getf (pc' := 4) (v := .int (s 146 44)) ja_M_isWrong_1 rfl (by decide) ⟨rfl, by decide⟩ rfl ?_
  refine q_iconst (pc' := 5) ja_M_isWrong_4 rfl (-1) (by decide) ?_
  refine q_ic_eq (pc' := 8) ja_M_isWrong_5 rfl ?_ ?_
  · intro h1
    refine q_iconst (pc' := 13) ja_M_isWrong_12 rfl 0 (by decide) ?_
    refine q_iret ja_M_isWrong_13 rfl (by decide) ?_
    show q_W _ _ _ _ 8 [some (.ref 146)] [.int 0] s
    refine q_if_ne (pc' := 11) ja_M_both_8 rfl (fun h => absurd ((by decide : (0 : Int32) = 0)) h) (fun _ => ?_)
    refine q_aload_n (pc' := 12) ja_M_both_11 rfl rfl ?_
    refine q_getf (pc' := 15) (v := .int (s 146 42)) ja_M_both_12 rfl (by decide) ⟨rfl, by decide⟩ rfl ?_
    refine q_sipush (pc' := 18) ja_M_both_15 rfl 305 (by decide) ?_
    refine q_ic_ne (pc' := 21) ja_M_both_18 rfl ?_ ?_
    · intro h2
      exact q_vret ja_M_both_38 rfl (k1 h1 h2)
    · intro h3
      refine q_aload_n (pc' := 22) ja_M_both_21 rfl rfl ?_
      refine q_virt (pc' := 25) (c := 146) (as := []) (r := []) ja_M_both_22 rfl rfl rfl (by decide) ⟨rfl, by decide⟩ ?_
      exact (k2 h1 h3)
  · intro h4
    refine q_iconst (pc' := 9) ja_M_isWrong_8 rfl 1 (by decide) ?_
    refine q_goto ja_M_isWrong_9 ?_
    refine q_iret ja_M_isWrong_13 rfl (by decide) ?_
    show q_W _ _ _ _ 8 [some (.ref 146)] [.int 1] s
    refine q_if_ne (pc' := 11) ja_M_both_8 rfl (fun _ => ?_) (fun h => absurd h ((by decide : ¬ (1 : Int32) = 0)))
    exact q_vret ja_M_both_38 rfl (k3 h4)
set_option maxRecDepth 20000 in
theorem t_M_both_25 {G : jv_X} {d : Nat} {B : Option Value → jg_H → Prop} {s : jg_H} 
    (k1 : q_P G (d + 1) 145 [.ref 146] s (fun v t => q_W G (d + 1) jm_M_both B 29 [some (.ref 146)] (v.toList ++ []) t)) :
    q_W G (d + 1) jm_M_both B 25 [some (.ref 146)] [] s := by
  refine q_aload_n (pc' := 26) ja_M_both_25 rfl rfl ?_
  refine q_virt (pc' := 29) (c := 146) (as := []) (r := []) ja_M_both_26 rfl rfl rfl (by decide) ⟨rfl, by decide⟩ ?_
  exact k1
set_option maxRecDepth 20000 in
theorem t_M_both_29 {G : jv_X} {d : Nat} {B : Option Value → jg_H → Prop} {s : jg_H} 
    (k1 : jv_in ((200 * (s 146 39)) + (s 146 46)) 1800 = true)
    (k2 : ∀ s1 : jg_H, s1 = jg_up s 163 ((200 * (s 146 39)) + (s 146 46)).toNatClampNeg 3 → jv_in ((200 * (s1 146 39)) + (s1 146 46)) 1800 = true)
    (k3 : ∀ s1 : jg_H, s1 = jg_up s 163 ((200 * (s 146 39)) + (s 146 46)).toNatClampNeg 3 → ∀ s2 : jg_H, s2 = jg_up s1 164 ((200 * (s1 146 39)) + (s1 146 46)).toNatClampNeg 0 → ∀ s3 : jg_H, s3 = jg_up s2 146 46 ((s2 146 46) + 1) → q_W G (d + 1) jm_M_both B 4 [some (.ref 146)] [] s3) :
    q_W G (d + 1) jm_M_both B 29 [some (.ref 146)] [] s := by
  refine q_aload_n (pc' := 30) ja_M_both_29 rfl rfl ?_
  refine q_iconst (pc' := 31) ja_M_both_30 rfl 3 (by decide) ?_
  refine q_iconst (pc' := 32) ja_M_both_31 rfl 0 (by decide) ?_
  refine q_virt (pc' := 35) (c := 146) (as := [.int 3, .int 0]) (r := []) ja_M_both_32 rfl rfl rfl (by decide) ⟨rfl, by decide⟩ ?_
  refine q_in (M := jm_M_emit) rfl (Nat.le_of_ble_eq_true rfl) (ls := [some (.ref 146), some (.int 3), some (.int 0)]) rfl ?_
  refine q_aload_n (pc' := 1) ja_M_emit_0 rfl rfl ?_
  refine q_getf (pc' := 4) (v := .ref 163) ja_M_emit_1 rfl (by decide) ⟨rfl, by decide⟩ rfl ?_
  refine q_sipush (pc' := 7) ja_M_emit_4 rfl 200 (by decide) ?_
  refine q_aload_n (pc' := 8) ja_M_emit_7 rfl rfl ?_
  refine q_getf (pc' := 11) (v := .int (s 146 39)) ja_M_emit_8 rfl (by decide) ⟨rfl, by decide⟩ rfl ?_
  refine q_imul (pc' := 12) ja_M_emit_11 rfl ?_
  refine q_aload_n (pc' := 13) ja_M_emit_12 rfl rfl ?_
  refine q_getf (pc' := 16) (v := .int (s 146 46)) ja_M_emit_13 rfl (by decide) ⟨rfl, by decide⟩ rfl ?_
  refine q_iadd (pc' := 17) ja_M_emit_16 rfl ?_
  refine q_iload_n (pc' := 18) ja_M_emit_17 rfl rfl ?_
  refine q_iast (pc' := 19) ja_M_emit_18 rfl (by decide) (l := 1800) rfl k1 ?_
  intro s1 e1
  refine q_aload_n (pc' := 20) ja_M_emit_19 rfl rfl ?_
  refine q_getf (pc' := 23) (v := .ref 164) ja_M_emit_20 rfl (by decide) ⟨rfl, by decide⟩ rfl ?_
  refine q_sipush (pc' := 26) ja_M_emit_23 rfl 200 (by decide) ?_
  refine q_aload_n (pc' := 27) ja_M_emit_26 rfl rfl ?_
  refine q_getf (pc' := 30) (v := .int (s1 146 39)) ja_M_emit_27 rfl (by decide) ⟨rfl, by decide⟩ rfl ?_
  refine q_imul (pc' := 31) ja_M_emit_30 rfl ?_
  refine q_aload_n (pc' := 32) ja_M_emit_31 rfl rfl ?_
  refine q_getf (pc' := 35) (v := .int (s1 146 46)) ja_M_emit_32 rfl (by decide) ⟨rfl, by decide⟩ rfl ?_
  refine q_iadd (pc' := 36) ja_M_emit_35 rfl ?_
  refine q_iload_n (pc' := 37) ja_M_emit_36 rfl rfl ?_
  refine q_iast (pc' := 38) ja_M_emit_37 rfl (by decide) (l := 1800) rfl (k2 s1 e1) ?_
  intro s2 e2
  refine q_aload_n (pc' := 39) ja_M_emit_38 rfl rfl ?_
  refine q_dup (pc' := 40) ja_M_emit_39 rfl rfl ?_
  refine q_getf (pc' := 43) (v := .int (s2 146 46)) ja_M_emit_40 rfl (by decide) ⟨rfl, by decide⟩ rfl ?_
  refine q_iconst (pc' := 44) ja_M_emit_43 rfl 1 (by decide) ?_
  refine q_iadd (pc' := 45) ja_M_emit_44 rfl ?_
  refine q_putf (pc' := 48) ja_M_emit_45 rfl (by decide) rfl rfl rfl ?_
  intro s3 e3
  refine q_vret ja_M_emit_48 rfl ?_
  show q_W _ _ _ _ 35 [some (.ref 146)] [] s3
  refine q_goto ja_M_both_35 ?_
  exact (k3 s1 e1 s2 e2 s3 e3)
set_option maxRecDepth 20000 in
theorem t_M_brings {G : jv_X} {d : Nat} {B : Option Value → jg_H → Prop} {s : jg_H} (a1 : Int32) (a2 : Int32)
    (k1 : jv_in a1 8 = true)
    (k2 : q_W G d jm_M_brings B 7 [some (.ref 146), some (.int a1), some (.int a2), some (.int (s 153 a1.toNatClampNeg)), none, none, none, none] [] s) :
    q_P G (d + 1) 211 [.ref 146, .int a1, .int a2] s B := by
  refine q_in (M := jm_M_brings) rfl (Nat.le_of_ble_eq_true rfl) (ls := [some (.ref 146), some (.int a1), some (.int a2), none, none, none, none, none]) rfl ?_
  refine q_aload_n (pc' := 1) ja_M_brings_0 rfl rfl ?_
  refine q_getf (pc' := 4) (v := .ref 153) ja_M_brings_1 rfl (by decide) ⟨rfl, by decide⟩ rfl ?_
  refine q_iload_n (pc' := 5) ja_M_brings_4 rfl rfl ?_
  refine q_iald (pc' := 6) (v := .int (s 153 a1.toNatClampNeg)) ja_M_brings_5 rfl (by decide) (l := 8) rfl k1 rfl ?_
  refine q_istore_n (pc' := 7) (ls' := [some (.ref 146), some (.int a1), some (.int a2), some (.int (s 153 a1.toNatClampNeg)), none, none, none, none]) ja_M_brings_6 rfl ⟨Nat.le_of_ble_eq_true rfl, rfl⟩ rfl ?_
  exact k2
set_option maxRecDepth 20000 in
theorem t_M_brings_7 {G : jv_X} {d : Nat} {B : Option Value → jg_H → Prop} {s : jg_H} (x1 : Int32) (x2 : Int32) (x3 : Int32) {o4 : Option Value} (ho4 : f_n o4 = true) {o5 : Option Value} (ho5 : f_n o5 = true) {o6 : Option Value} (ho6 : f_n o6 = true) {o7 : Option Value} (ho7 : f_n o7 = true)
    (k1 : x3 < 0 → B none s)
    (k2 : ¬ x3 < 0 → jv_in x2 8 = true)
    (k3 : ¬ x3 < 0 → q_W G d jm_M_brings B 19 [some (.ref 146), some (.int x1), some (.int x2), some (.int x3), some (.int (s 153 x2.toNatClampNeg)), o5, o6, o7] [] s) :
    q_W G d jm_M_brings B 7 [some (.ref 146), some (.int x1), some (.int x2), some (.int x3), o4, o5, o6, o7] [] s := by
  refine q_iload_n (pc' := 8) ja_M_brings_7 rfl rfl ?_
  refine q_if_lt (pc' := 11) ja_M_brings_8 rfl ?_ ?_
  · intro h1
    exact q_vret ja_M_brings_173 rfl (k1 h1)
  · intro h2
    refine q_aload_n (pc' := 12) ja_M_brings_11 rfl rfl ?_
    refine q_getf (pc' := 15) (v := .ref 153) ja_M_brings_12 rfl (by decide) ⟨rfl, by decide⟩ rfl ?_
    refine q_iload_n (pc' := 16) ja_M_brings_15 rfl rfl ?_
    refine q_iald (pc' := 17) (v := .int (s 153 x2.toNatClampNeg)) ja_M_brings_16 rfl (by decide) (l := 8) rfl (k2 h2) rfl ?_
    refine q_istore (pc' := 19) (ls' := [some (.ref 146), some (.int x1), some (.int x2), some (.int x3), some (.int (s 153 x2.toNatClampNeg)), o5, o6, o7]) ja_M_brings_17 rfl ⟨Nat.le_of_ble_eq_true rfl, rfl⟩ rfl ?_
    exact (k3 h2)
set_option maxRecDepth 20000 in
theorem t_M_brings_19 {G : jv_X} {d : Nat} {B : Option Value → jg_H → Prop} {s : jg_H} (x1 : Int32) (x2 : Int32) (x3 : Int32) (x4 : Int32) {o5 : Option Value} (ho5 : f_n o5 = true) {o6 : Option Value} (ho6 : f_n o6 = true) {o7 : Option Value} (ho7 : f_n o7 = true)
    (k1 : x4 < 0 → q_W G d jm_M_brings B 7 [some (.ref 146), some (.int x1), some (.int x2), some (.int (x3 + (-1))), some (.int x4), o5, o6, o7] [] s)
    (k2 : ¬ x4 < 0 → jv_in x1 8 = true)
    (k3 : ¬ x4 < 0 → ¬ x3 < (s 153 x1.toNatClampNeg) → jv_in ((11 * x3) + x4) 121 = true)
    (k4 : ¬ x4 < 0 → ¬ x3 < (s 153 x1.toNatClampNeg) → ∀ s1 : jg_H, s1 = jg_up s 175 ((11 * x3) + x4).toNatClampNeg 0 → q_W G d jm_M_brings B 19 [some (.ref 146), some (.int x1), some (.int x2), some (.int x3), some (.int (x4 + (-1))), some (.int 0), o6, o7] [] s1)
    (k5 : ¬ x4 < 0 → x3 < (s 153 x1.toNatClampNeg) → jv_in x2 8 = true)
    (k6 : ¬ x4 < 0 → x3 < (s 153 x1.toNatClampNeg) → ¬ x4 < (s 153 x2.toNatClampNeg) → jv_in ((11 * x3) + x4) 121 = true)
    (k7 : ¬ x4 < 0 → x3 < (s 153 x1.toNatClampNeg) → ¬ x4 < (s 153 x2.toNatClampNeg) → ∀ s2 : jg_H, s2 = jg_up s 175 ((11 * x3) + x4).toNatClampNeg 0 → q_W G d jm_M_brings B 19 [some (.ref 146), some (.int x1), some (.int x2), some (.int x3), some (.int (x4 + (-1))), some (.int 0), o6, o7] [] s2)
    (k8 : ¬ x4 < 0 → x3 < (s 153 x1.toNatClampNeg) → x4 < (s 153 x2.toNatClampNeg) → jv_in ((11 * (x3 + 1)) + x4) 121 = true)
    (k9 : ¬ x4 < 0 → x3 < (s 153 x1.toNatClampNeg) → x4 < (s 153 x2.toNatClampNeg) → jv_in (((11 * x3) + x4) + 1) 121 = true)
    (k10 : ¬ x4 < 0 → x3 < (s 153 x1.toNatClampNeg) → x4 < (s 153 x2.toNatClampNeg) → (s 175 ((11 * (x3 + 1)) + x4).toNatClampNeg) ≤ (s 175 (((11 * x3) + x4) + 1).toNatClampNeg) → jv_in ((10 * x1) + x3) 80 = true)
    (k11 : ¬ x4 < 0 → x3 < (s 153 x1.toNatClampNeg) → x4 < (s 153 x2.toNatClampNeg) → (s 175 ((11 * (x3 + 1)) + x4).toNatClampNeg) ≤ (s 175 (((11 * x3) + x4) + 1).toNatClampNeg) → jv_in ((10 * x2) + x4) 80 = true)
    (k12 : ¬ x4 < 0 → x3 < (s 153 x1.toNatClampNeg) → x4 < (s 153 x2.toNatClampNeg) → (s 175 ((11 * (x3 + 1)) + x4).toNatClampNeg) ≤ (s 175 (((11 * x3) + x4) + 1).toNatClampNeg) → ¬ (s 154 ((10 * x1) + x3).toNatClampNeg) = (s 154 ((10 * x2) + x4).toNatClampNeg) → jv_in ((11 * x3) + x4) 121 = true)
    (k13 : ¬ x4 < 0 → x3 < (s 153 x1.toNatClampNeg) → x4 < (s 153 x2.toNatClampNeg) → (s 175 ((11 * (x3 + 1)) + x4).toNatClampNeg) ≤ (s 175 (((11 * x3) + x4) + 1).toNatClampNeg) → ¬ (s 154 ((10 * x1) + x3).toNatClampNeg) = (s 154 ((10 * x2) + x4).toNatClampNeg) → ∀ s3 : jg_H, s3 = jg_up s 175 ((11 * x3) + x4).toNatClampNeg (s 175 (((11 * x3) + x4) + 1).toNatClampNeg) → q_W G d jm_M_brings B 19 [some (.ref 146), some (.int x1), some (.int x2), some (.int x3), some (.int (x4 + (-1))), some (.int (s 175 (((11 * x3) + x4) + 1).toNatClampNeg)), some (.int (s 175 ((11 * (x3 + 1)) + x4).toNatClampNeg)), some (.int (s 175 (((11 * x3) + x4) + 1).toNatClampNeg))] [] s3)
    (k14 : ¬ x4 < 0 → x3 < (s 153 x1.toNatClampNeg) → x4 < (s 153 x2.toNatClampNeg) → (s 175 ((11 * (x3 + 1)) + x4).toNatClampNeg) ≤ (s 175 (((11 * x3) + x4) + 1).toNatClampNeg) → (s 154 ((10 * x1) + x3).toNatClampNeg) = (s 154 ((10 * x2) + x4).toNatClampNeg) → jv_in (((11 * (x3 + 1)) + x4) + 1) 121 = true)
    (k15 : ¬ x4 < 0 → x3 < (s 153 x1.toNatClampNeg) → x4 < (s 153 x2.toNatClampNeg) → (s 175 ((11 * (x3 + 1)) + x4).toNatClampNeg) ≤ (s 175 (((11 * x3) + x4) + 1).toNatClampNeg) → (s 154 ((10 * x1) + x3).toNatClampNeg) = (s 154 ((10 * x2) + x4).toNatClampNeg) → jv_in ((11 * x3) + x4) 121 = true)
    (k16 : ¬ x4 < 0 → x3 < (s 153 x1.toNatClampNeg) → x4 < (s 153 x2.toNatClampNeg) → (s 175 ((11 * (x3 + 1)) + x4).toNatClampNeg) ≤ (s 175 (((11 * x3) + x4) + 1).toNatClampNeg) → (s 154 ((10 * x1) + x3).toNatClampNeg) = (s 154 ((10 * x2) + x4).toNatClampNeg) → ∀ s4 : jg_H, s4 = jg_up s 175 ((11 * x3) + x4).toNatClampNeg (1 + (s 175 (((11 * (x3 + 1)) + x4) + 1).toNatClampNeg)) → q_W G d jm_M_brings B 19 [some (.ref 146), some (.int x1), some (.int x2), some (.int x3), some (.int (x4 + (-1))), some (.int (1 + (s 175 (((11 * (x3 + 1)) + x4) + 1).toNatClampNeg))), some (.int (s 175 ((11 * (x3 + 1)) + x4).toNatClampNeg)), some (.int (s 175 (((11 * x3) + x4) + 1).toNatClampNeg))] [] s4)
    (k17 : ¬ x4 < 0 → x3 < (s 153 x1.toNatClampNeg) → x4 < (s 153 x2.toNatClampNeg) → ¬ (s 175 ((11 * (x3 + 1)) + x4).toNatClampNeg) ≤ (s 175 (((11 * x3) + x4) + 1).toNatClampNeg) → jv_in ((10 * x1) + x3) 80 = true)
    (k18 : ¬ x4 < 0 → x3 < (s 153 x1.toNatClampNeg) → x4 < (s 153 x2.toNatClampNeg) → ¬ (s 175 ((11 * (x3 + 1)) + x4).toNatClampNeg) ≤ (s 175 (((11 * x3) + x4) + 1).toNatClampNeg) → jv_in ((10 * x2) + x4) 80 = true)
    (k19 : ¬ x4 < 0 → x3 < (s 153 x1.toNatClampNeg) → x4 < (s 153 x2.toNatClampNeg) → ¬ (s 175 ((11 * (x3 + 1)) + x4).toNatClampNeg) ≤ (s 175 (((11 * x3) + x4) + 1).toNatClampNeg) → ¬ (s 154 ((10 * x1) + x3).toNatClampNeg) = (s 154 ((10 * x2) + x4).toNatClampNeg) → jv_in ((11 * x3) + x4) 121 = true)
    (k20 : ¬ x4 < 0 → x3 < (s 153 x1.toNatClampNeg) → x4 < (s 153 x2.toNatClampNeg) → ¬ (s 175 ((11 * (x3 + 1)) + x4).toNatClampNeg) ≤ (s 175 (((11 * x3) + x4) + 1).toNatClampNeg) → ¬ (s 154 ((10 * x1) + x3).toNatClampNeg) = (s 154 ((10 * x2) + x4).toNatClampNeg) → ∀ s5 : jg_H, s5 = jg_up s 175 ((11 * x3) + x4).toNatClampNeg (s 175 ((11 * (x3 + 1)) + x4).toNatClampNeg) → q_W G d jm_M_brings B 19 [some (.ref 146), some (.int x1), some (.int x2), some (.int x3), some (.int (x4 + (-1))), some (.int (s 175 ((11 * (x3 + 1)) + x4).toNatClampNeg)), some (.int (s 175 ((11 * (x3 + 1)) + x4).toNatClampNeg)), some (.int (s 175 (((11 * x3) + x4) + 1).toNatClampNeg))] [] s5)
    (k21 : ¬ x4 < 0 → x3 < (s 153 x1.toNatClampNeg) → x4 < (s 153 x2.toNatClampNeg) → ¬ (s 175 ((11 * (x3 + 1)) + x4).toNatClampNeg) ≤ (s 175 (((11 * x3) + x4) + 1).toNatClampNeg) → (s 154 ((10 * x1) + x3).toNatClampNeg) = (s 154 ((10 * x2) + x4).toNatClampNeg) → jv_in (((11 * (x3 + 1)) + x4) + 1) 121 = true)
    (k22 : ¬ x4 < 0 → x3 < (s 153 x1.toNatClampNeg) → x4 < (s 153 x2.toNatClampNeg) → ¬ (s 175 ((11 * (x3 + 1)) + x4).toNatClampNeg) ≤ (s 175 (((11 * x3) + x4) + 1).toNatClampNeg) → (s 154 ((10 * x1) + x3).toNatClampNeg) = (s 154 ((10 * x2) + x4).toNatClampNeg) → jv_in ((11 * x3) + x4) 121 = true)
    (k23 : ¬ x4 < 0 → x3 < (s 153 x1.toNatClampNeg) → x4 < (s 153 x2.toNatClampNeg) → ¬ (s 175 ((11 * (x3 + 1)) + x4).toNatClampNeg) ≤ (s 175 (((11 * x3) + x4) + 1).toNatClampNeg) → (s 154 ((10 * x1) + x3).toNatClampNeg) = (s 154 ((10 * x2) + x4).toNatClampNeg) → ∀ s6 : jg_H, s6 = jg_up s 175 ((11 * x3) + x4).toNatClampNeg (1 + (s 175 (((11 * (x3 + 1)) + x4) + 1).toNatClampNeg)) → q_W G d jm_M_brings B 19 [some (.ref 146), some (.int x1), some (.int x2), some (.int x3), some (.int (x4 + (-1))), some (.int (1 + (s 175 (((11 * (x3 + 1)) + x4) + 1).toNatClampNeg))), some (.int (s 175 ((11 * (x3 + 1)) + x4).toNatClampNeg)), some (.int (s 175 (((11 * x3) + x4) + 1).toNatClampNeg))] [] s6) :
    q_W G d jm_M_brings B 19 [some (.ref 146), some (.int x1), some (.int x2), some (.int x3), some (.int x4), o5, o6, o7] [] s := by
  refine q_iload (pc' := 21) ja_M_brings_19 rfl rfl ?_
  refine q_if_lt (pc' := 24) ja_M_brings_21 rfl ?_ ?_
  · intro h1
    refine q_iinc (pc' := 170) (ls' := [some (.ref 146), some (.int x1), some (.int x2), some (.int (x3 + (-1))), some (.int x4), o5, o6, o7]) ja_M_brings_167 rfl rfl (x3 + (-1)) rfl ⟨Nat.le_of_ble_eq_true rfl, rfl⟩ rfl ?_
    refine q_goto ja_M_brings_170 ?_
    exact (k1 h1)
  · intro h2
    refine q_iconst (pc' := 25) ja_M_brings_24 rfl 0 (by decide) ?_
    refine q_istore (pc' := 27) (ls' := [some (.ref 146), some (.int x1), some (.int x2), some (.int x3), some (.int x4), some (.int 0), o6, o7]) ja_M_brings_25 rfl ⟨Nat.le_of_ble_eq_true rfl, rfl⟩ rfl ?_
    refine q_iload_n (pc' := 28) ja_M_brings_27 rfl rfl ?_
    refine q_aload_n (pc' := 29) ja_M_brings_28 rfl rfl ?_
    refine q_getf (pc' := 32) (v := .ref 153) ja_M_brings_29 rfl (by decide) ⟨rfl, by decide⟩ rfl ?_
    refine q_iload_n (pc' := 33) ja_M_brings_32 rfl rfl ?_
    refine q_iald (pc' := 34) (v := .int (s 153 x1.toNatClampNeg)) ja_M_brings_33 rfl (by decide) (l := 8) rfl (k2 h2) rfl ?_
    refine q_ic_ge (pc' := 37) ja_M_brings_34 rfl ?_ ?_
    · intro h3
      refine q_aload_n (pc' := 148) ja_M_brings_147 rfl rfl ?_
      refine q_getf (pc' := 151) (v := .ref 175) ja_M_brings_148 rfl (by decide) ⟨rfl, by decide⟩ rfl ?_
      refine q_bipush (pc' := 153) ja_M_brings_151 rfl 11 (by decide) ?_
      refine q_iload_n (pc' := 154) ja_M_brings_153 rfl rfl ?_
      refine q_imul (pc' := 155) ja_M_brings_154 rfl ?_
      refine q_iload (pc' := 157) ja_M_brings_155 rfl rfl ?_
      refine q_iadd (pc' := 158) ja_M_brings_157 rfl ?_
      refine q_iload (pc' := 160) ja_M_brings_158 rfl rfl ?_
      refine q_iast (pc' := 161) ja_M_brings_160 rfl (by decide) (l := 121) rfl (k3 h2 h3) ?_
      intro s1 e1
      refine q_iinc (pc' := 164) (ls' := [some (.ref 146), some (.int x1), some (.int x2), some (.int x3), some (.int (x4 + (-1))), some (.int 0), o6, o7]) ja_M_brings_161 rfl rfl (x4 + (-1)) rfl ⟨Nat.le_of_ble_eq_true rfl, rfl⟩ rfl ?_
      refine q_goto ja_M_brings_164 ?_
      exact (k4 h2 h3 s1 e1)
    · intro h4
      refine q_iload (pc' := 39) ja_M_brings_37 rfl rfl ?_
      refine q_aload_n (pc' := 40) ja_M_brings_39 rfl rfl ?_
      refine q_getf (pc' := 43) (v := .ref 153) ja_M_brings_40 rfl (by decide) ⟨rfl, by decide⟩ rfl ?_
      refine q_iload_n (pc' := 44) ja_M_brings_43 rfl rfl ?_
      refine q_iald (pc' := 45) (v := .int (s 153 x2.toNatClampNeg)) ja_M_brings_44 rfl (by decide) (l := 8) rfl (k5 h2 h4) rfl ?_
      refine q_ic_ge (pc' := 48) ja_M_brings_45 rfl ?_ ?_
      · intro h5
        refine q_aload_n (pc' := 148) ja_M_brings_147 rfl rfl ?_
        refine q_getf (pc' := 151) (v := .ref 175) ja_M_brings_148 rfl (by decide) ⟨rfl, by decide⟩ rfl ?_
        refine q_bipush (pc' := 153) ja_M_brings_151 rfl 11 (by decide) ?_
        refine q_iload_n (pc' := 154) ja_M_brings_153 rfl rfl ?_
        refine q_imul (pc' := 155) ja_M_brings_154 rfl ?_
        refine q_iload (pc' := 157) ja_M_brings_155 rfl rfl ?_
        refine q_iadd (pc' := 158) ja_M_brings_157 rfl ?_
        refine q_iload (pc' := 160) ja_M_brings_158 rfl rfl ?_
        refine q_iast (pc' := 161) ja_M_brings_160 rfl (by decide) (l := 121) rfl (k6 h2 h4 h5) ?_
        intro s2 e2
        refine q_iinc (pc' := 164) (ls' := [some (.ref 146), some (.int x1), some (.int x2), some (.int x3), some (.int (x4 + (-1))), some (.int 0), o6, o7]) ja_M_brings_161 rfl rfl (x4 + (-1)) rfl ⟨Nat.le_of_ble_eq_true rfl, rfl⟩ rfl ?_
        refine q_goto ja_M_brings_164 ?_
        exact (k7 h2 h4 h5 s2 e2)
      · intro h6
        refine q_aload_n (pc' := 49) ja_M_brings_48 rfl rfl ?_
        refine q_getf (pc' := 52) (v := .ref 175) ja_M_brings_49 rfl (by decide) ⟨rfl, by decide⟩ rfl ?_
        refine q_bipush (pc' := 54) ja_M_brings_52 rfl 11 (by decide) ?_
        refine q_iload_n (pc' := 55) ja_M_brings_54 rfl rfl ?_
        refine q_iconst (pc' := 56) ja_M_brings_55 rfl 1 (by decide) ?_
        refine q_iadd (pc' := 57) ja_M_brings_56 rfl ?_
        refine q_imul (pc' := 58) ja_M_brings_57 rfl ?_
        refine q_iload (pc' := 60) ja_M_brings_58 rfl rfl ?_
        refine q_iadd (pc' := 61) ja_M_brings_60 rfl ?_
        refine q_iald (pc' := 62) (v := .int (s 175 ((11 * (x3 + 1)) + x4).toNatClampNeg)) ja_M_brings_61 rfl (by decide) (l := 121) rfl (k8 h2 h4 h6) rfl ?_
        refine q_istore (pc' := 64) (ls' := [some (.ref 146), some (.int x1), some (.int x2), some (.int x3), some (.int x4), some (.int 0), some (.int (s 175 ((11 * (x3 + 1)) + x4).toNatClampNeg)), o7]) ja_M_brings_62 rfl ⟨Nat.le_of_ble_eq_true rfl, rfl⟩ rfl ?_
        refine q_aload_n (pc' := 65) ja_M_brings_64 rfl rfl ?_
        refine q_getf (pc' := 68) (v := .ref 175) ja_M_brings_65 rfl (by decide) ⟨rfl, by decide⟩ rfl ?_
        refine q_bipush (pc' := 70) ja_M_brings_68 rfl 11 (by decide) ?_
        refine q_iload_n (pc' := 71) ja_M_brings_70 rfl rfl ?_
        refine q_imul (pc' := 72) ja_M_brings_71 rfl ?_
        refine q_iload (pc' := 74) ja_M_brings_72 rfl rfl ?_
        refine q_iadd (pc' := 75) ja_M_brings_74 rfl ?_
        refine q_iconst (pc' := 76) ja_M_brings_75 rfl 1 (by decide) ?_
        refine q_iadd (pc' := 77) ja_M_brings_76 rfl ?_
        refine q_iald (pc' := 78) (v := .int (s 175 (((11 * x3) + x4) + 1).toNatClampNeg)) ja_M_brings_77 rfl (by decide) (l := 121) rfl (k9 h2 h4 h6) rfl ?_
        refine q_istore (pc' := 80) (ls' := [some (.ref 146), some (.int x1), some (.int x2), some (.int x3), some (.int x4), some (.int 0), some (.int (s 175 ((11 * (x3 + 1)) + x4).toNatClampNeg)), some (.int (s 175 (((11 * x3) + x4) + 1).toNatClampNeg))]) ja_M_brings_78 rfl ⟨Nat.le_of_ble_eq_true rfl, rfl⟩ rfl ?_
        refine q_iload (pc' := 82) ja_M_brings_80 rfl rfl ?_
        refine q_iload (pc' := 84) ja_M_brings_82 rfl rfl ?_
        refine q_ic_le (pc' := 87) ja_M_brings_84 rfl ?_ ?_
        · intro h7
          refine q_iload (pc' := 94) ja_M_brings_92 rfl rfl ?_
          refine q_istore (pc' := 96) (ls' := [some (.ref 146), some (.int x1), some (.int x2), some (.int x3), some (.int x4), some (.int (s 175 (((11 * x3) + x4) + 1).toNatClampNeg)), some (.int (s 175 ((11 * (x3 + 1)) + x4).toNatClampNeg)), some (.int (s 175 (((11 * x3) + x4) + 1).toNatClampNeg))]) ja_M_brings_94 rfl ⟨Nat.le_of_ble_eq_true rfl, rfl⟩ rfl ?_
          refine q_aload_n (pc' := 97) ja_M_brings_96 rfl rfl ?_
          refine q_getf (pc' := 100) (v := .ref 154) ja_M_brings_97 rfl (by decide) ⟨rfl, by decide⟩ rfl ?_
          refine q_bipush (pc' := 102) ja_M_brings_100 rfl 10 (by decide) ?_
          refine q_iload_n (pc' := 103) ja_M_brings_102 rfl rfl ?_
          refine q_imul (pc' := 104) ja_M_brings_103 rfl ?_
          refine q_iload_n (pc' := 105) ja_M_brings_104 rfl rfl ?_
          refine q_iadd (pc' := 106) ja_M_brings_105 rfl ?_
          refine q_iald (pc' := 107) (v := .int (s 154 ((10 * x1) + x3).toNatClampNeg)) ja_M_brings_106 rfl (by decide) (l := 80) rfl (k10 h2 h4 h6 h7) rfl ?_
          refine q_aload_n (pc' := 108) ja_M_brings_107 rfl rfl ?_
          refine q_getf (pc' := 111) (v := .ref 154) ja_M_brings_108 rfl (by decide) ⟨rfl, by decide⟩ rfl ?_
          refine q_bipush (pc' := 113) ja_M_brings_111 rfl 10 (by decide) ?_
          refine q_iload_n (pc' := 114) ja_M_brings_113 rfl rfl ?_
          refine q_imul (pc' := 115) ja_M_brings_114 rfl ?_
          refine q_iload (pc' := 117) ja_M_brings_115 rfl rfl ?_
          refine q_iadd (pc' := 118) ja_M_brings_117 rfl ?_
          refine q_iald (pc' := 119) (v := .int (s 154 ((10 * x2) + x4).toNatClampNeg)) ja_M_brings_118 rfl (by decide) (l := 80) rfl (k11 h2 h4 h6 h7) rfl ?_
          refine q_ic_ne (pc' := 122) ja_M_brings_119 rfl ?_ ?_
          · intro h8
            refine q_iload (pc' := 145) ja_M_brings_143 rfl rfl ?_
            refine q_istore (pc' := 147) (ls' := [some (.ref 146), some (.int x1), some (.int x2), some (.int x3), some (.int x4), some (.int (s 175 (((11 * x3) + x4) + 1).toNatClampNeg)), some (.int (s 175 ((11 * (x3 + 1)) + x4).toNatClampNeg)), some (.int (s 175 (((11 * x3) + x4) + 1).toNatClampNeg))]) ja_M_brings_145 rfl ⟨Nat.le_of_ble_eq_true rfl, rfl⟩ rfl ?_
            refine q_aload_n (pc' := 148) ja_M_brings_147 rfl rfl ?_
            refine q_getf (pc' := 151) (v := .ref 175) ja_M_brings_148 rfl (by decide) ⟨rfl, by decide⟩ rfl ?_
            refine q_bipush (pc' := 153) ja_M_brings_151 rfl 11 (by decide) ?_
            refine q_iload_n (pc' := 154) ja_M_brings_153 rfl rfl ?_
            refine q_imul (pc' := 155) ja_M_brings_154 rfl ?_
            refine q_iload (pc' := 157) ja_M_brings_155 rfl rfl ?_
            refine q_iadd (pc' := 158) ja_M_brings_157 rfl ?_
            refine q_iload (pc' := 160) ja_M_brings_158 rfl rfl ?_
            refine q_iast (pc' := 161) ja_M_brings_160 rfl (by decide) (l := 121) rfl (k12 h2 h4 h6 h7 h8) ?_
            intro s3 e3
            refine q_iinc (pc' := 164) (ls' := [some (.ref 146), some (.int x1), some (.int x2), some (.int x3), some (.int (x4 + (-1))), some (.int (s 175 (((11 * x3) + x4) + 1).toNatClampNeg)), some (.int (s 175 ((11 * (x3 + 1)) + x4).toNatClampNeg)), some (.int (s 175 (((11 * x3) + x4) + 1).toNatClampNeg))]) ja_M_brings_161 rfl rfl (x4 + (-1)) rfl ⟨Nat.le_of_ble_eq_true rfl, rfl⟩ rfl ?_
            refine q_goto ja_M_brings_164 ?_
            exact (k13 h2 h4 h6 h7 h8 s3 e3)
          · intro h9
            refine q_iconst (pc' := 123) ja_M_brings_122 rfl 1 (by decide) ?_
            refine q_aload_n (pc' := 124) ja_M_brings_123 rfl rfl ?_
            refine q_getf (pc' := 127) (v := .ref 175) ja_M_brings_124 rfl (by decide) ⟨rfl, by decide⟩ rfl ?_
            refine q_bipush (pc' := 129) ja_M_brings_127 rfl 11 (by decide) ?_
            refine q_iload_n (pc' := 130) ja_M_brings_129 rfl rfl ?_
            refine q_iconst (pc' := 131) ja_M_brings_130 rfl 1 (by decide) ?_
            refine q_iadd (pc' := 132) ja_M_brings_131 rfl ?_
            refine q_imul (pc' := 133) ja_M_brings_132 rfl ?_
            refine q_iload (pc' := 135) ja_M_brings_133 rfl rfl ?_
            refine q_iadd (pc' := 136) ja_M_brings_135 rfl ?_
            refine q_iconst (pc' := 137) ja_M_brings_136 rfl 1 (by decide) ?_
            refine q_iadd (pc' := 138) ja_M_brings_137 rfl ?_
            refine q_iald (pc' := 139) (v := .int (s 175 (((11 * (x3 + 1)) + x4) + 1).toNatClampNeg)) ja_M_brings_138 rfl (by decide) (l := 121) rfl (k14 h2 h4 h6 h7 h9) rfl ?_
            refine q_iadd (pc' := 140) ja_M_brings_139 rfl ?_
            refine q_goto ja_M_brings_140 ?_
            refine q_istore (pc' := 147) (ls' := [some (.ref 146), some (.int x1), some (.int x2), some (.int x3), some (.int x4), some (.int (1 + (s 175 (((11 * (x3 + 1)) + x4) + 1).toNatClampNeg))), some (.int (s 175 ((11 * (x3 + 1)) + x4).toNatClampNeg)), some (.int (s 175 (((11 * x3) + x4) + 1).toNatClampNeg))]) ja_M_brings_145 rfl ⟨Nat.le_of_ble_eq_true rfl, rfl⟩ rfl ?_
            refine q_aload_n (pc' := 148) ja_M_brings_147 rfl rfl ?_
            refine q_getf (pc' := 151) (v := .ref 175) ja_M_brings_148 rfl (by decide) ⟨rfl, by decide⟩ rfl ?_
            refine q_bipush (pc' := 153) ja_M_brings_151 rfl 11 (by decide) ?_
            refine q_iload_n (pc' := 154) ja_M_brings_153 rfl rfl ?_
            refine q_imul (pc' := 155) ja_M_brings_154 rfl ?_
            refine q_iload (pc' := 157) ja_M_brings_155 rfl rfl ?_
            refine q_iadd (pc' := 158) ja_M_brings_157 rfl ?_
            refine q_iload (pc' := 160) ja_M_brings_158 rfl rfl ?_
            refine q_iast (pc' := 161) ja_M_brings_160 rfl (by decide) (l := 121) rfl (k15 h2 h4 h6 h7 h9) ?_
            intro s4 e4
            refine q_iinc (pc' := 164) (ls' := [some (.ref 146), some (.int x1), some (.int x2), some (.int x3), some (.int (x4 + (-1))), some (.int (1 + (s 175 (((11 * (x3 + 1)) + x4) + 1).toNatClampNeg))), some (.int (s 175 ((11 * (x3 + 1)) + x4).toNatClampNeg)), some (.int (s 175 (((11 * x3) + x4) + 1).toNatClampNeg))]) ja_M_brings_161 rfl rfl (x4 + (-1)) rfl ⟨Nat.le_of_ble_eq_true rfl, rfl⟩ rfl ?_
            refine q_goto ja_M_brings_164 ?_
            exact (k16 h2 h4 h6 h7 h9 s4 e4)
        · intro h10
          refine q_iload (pc' := 89) ja_M_brings_87 rfl rfl ?_
          refine q_goto ja_M_brings_89 ?_
          refine q_istore (pc' := 96) (ls' := [some (.ref 146), some (.int x1), some (.int x2), some (.int x3), some (.int x4), some (.int (s 175 ((11 * (x3 + 1)) + x4).toNatClampNeg)), some (.int (s 175 ((11 * (x3 + 1)) + x4).toNatClampNeg)), some (.int (s 175 (((11 * x3) + x4) + 1).toNatClampNeg))]) ja_M_brings_94 rfl ⟨Nat.le_of_ble_eq_true rfl, rfl⟩ rfl ?_
          refine q_aload_n (pc' := 97) ja_M_brings_96 rfl rfl ?_
          refine q_getf (pc' := 100) (v := .ref 154) ja_M_brings_97 rfl (by decide) ⟨rfl, by decide⟩ rfl ?_
          refine q_bipush (pc' := 102) ja_M_brings_100 rfl 10 (by decide) ?_
          refine q_iload_n (pc' := 103) ja_M_brings_102 rfl rfl ?_
          refine q_imul (pc' := 104) ja_M_brings_103 rfl ?_
          refine q_iload_n (pc' := 105) ja_M_brings_104 rfl rfl ?_
          refine q_iadd (pc' := 106) ja_M_brings_105 rfl ?_
          refine q_iald (pc' := 107) (v := .int (s 154 ((10 * x1) + x3).toNatClampNeg)) ja_M_brings_106 rfl (by decide) (l := 80) rfl (k17 h2 h4 h6 h10) rfl ?_
          refine q_aload_n (pc' := 108) ja_M_brings_107 rfl rfl ?_
          refine q_getf (pc' := 111) (v := .ref 154) ja_M_brings_108 rfl (by decide) ⟨rfl, by decide⟩ rfl ?_
          refine q_bipush (pc' := 113) ja_M_brings_111 rfl 10 (by decide) ?_
          refine q_iload_n (pc' := 114) ja_M_brings_113 rfl rfl ?_
          refine q_imul (pc' := 115) ja_M_brings_114 rfl ?_
          refine q_iload (pc' := 117) ja_M_brings_115 rfl rfl ?_
          refine q_iadd (pc' := 118) ja_M_brings_117 rfl ?_
          refine q_iald (pc' := 119) (v := .int (s 154 ((10 * x2) + x4).toNatClampNeg)) ja_M_brings_118 rfl (by decide) (l := 80) rfl (k18 h2 h4 h6 h10) rfl ?_
          refine q_ic_ne (pc' := 122) ja_M_brings_119 rfl ?_ ?_
          · intro h11
            refine q_iload (pc' := 145) ja_M_brings_143 rfl rfl ?_
            refine q_istore (pc' := 147) (ls' := [some (.ref 146), some (.int x1), some (.int x2), some (.int x3), some (.int x4), some (.int (s 175 ((11 * (x3 + 1)) + x4).toNatClampNeg)), some (.int (s 175 ((11 * (x3 + 1)) + x4).toNatClampNeg)), some (.int (s 175 (((11 * x3) + x4) + 1).toNatClampNeg))]) ja_M_brings_145 rfl ⟨Nat.le_of_ble_eq_true rfl, rfl⟩ rfl ?_
            refine q_aload_n (pc' := 148) ja_M_brings_147 rfl rfl ?_
            refine q_getf (pc' := 151) (v := .ref 175) ja_M_brings_148 rfl (by decide) ⟨rfl, by decide⟩ rfl ?_
            refine q_bipush (pc' := 153) ja_M_brings_151 rfl 11 (by decide) ?_
            refine q_iload_n (pc' := 154) ja_M_brings_153 rfl rfl ?_
            refine q_imul (pc' := 155) ja_M_brings_154 rfl ?_
            refine q_iload (pc' := 157) ja_M_brings_155 rfl rfl ?_
            refine q_iadd (pc' := 158) ja_M_brings_157 rfl ?_
            refine q_iload (pc' := 160) ja_M_brings_158 rfl rfl ?_
            refine q_iast (pc' := 161) ja_M_brings_160 rfl (by decide) (l := 121) rfl (k19 h2 h4 h6 h10 h11) ?_
            intro s5 e5
            refine q_iinc (pc' := 164) (ls' := [some (.ref 146), some (.int x1), some (.int x2), some (.int x3), some (.int (x4 + (-1))), some (.int (s 175 ((11 * (x3 + 1)) + x4).toNatClampNeg)), some (.int (s 175 ((11 * (x3 + 1)) + x4).toNatClampNeg)), some (.int (s 175 (((11 * x3) + x4) + 1).toNatClampNeg))]) ja_M_brings_161 rfl rfl (x4 + (-1)) rfl ⟨Nat.le_of_ble_eq_true rfl, rfl⟩ rfl ?_
            refine q_goto ja_M_brings_164 ?_
            exact (k20 h2 h4 h6 h10 h11 s5 e5)
          · intro h12
            refine q_iconst (pc' := 123) ja_M_brings_122 rfl 1 (by decide) ?_
            refine q_aload_n (pc' := 124) ja_M_brings_123 rfl rfl ?_
            refine q_getf (pc' := 127) (v := .ref 175) ja_M_brings_124 rfl (by decide) ⟨rfl, by decide⟩ rfl ?_
            refine q_bipush (pc' := 129) ja_M_brings_127 rfl 11 (by decide) ?_
            refine q_iload_n (pc' := 130) ja_M_brings_129 rfl rfl ?_
            refine q_iconst (pc' := 131) ja_M_brings_130 rfl 1 (by decide) ?_
            refine q_iadd (pc' := 132) ja_M_brings_131 rfl ?_
            refine q_imul (pc' := 133) ja_M_brings_132 rfl ?_
            refine q_iload (pc' := 135) ja_M_brings_133 rfl rfl ?_
            refine q_iadd (pc' := 136) ja_M_brings_135 rfl ?_
            refine q_iconst (pc' := 137) ja_M_brings_136 rfl 1 (by decide) ?_
            refine q_iadd (pc' := 138) ja_M_brings_137 rfl ?_
            refine q_iald (pc' := 139) (v := .int (s 175 (((11 * (x3 + 1)) + x4) + 1).toNatClampNeg)) ja_M_brings_138 rfl (by decide) (l := 121) rfl (k21 h2 h4 h6 h10 h12) rfl ?_
            refine q_iadd (pc' := 140) ja_M_brings_139 rfl ?_
            refine q_goto ja_M_brings_140 ?_
            refine q_istore (pc' := 147) (ls' := [some (.ref 146), some (.int x1), some (.int x2), some (.int x3), some (.int x4), some (.int (1 + (s 175 (((11 * (x3 + 1)) + x4) + 1).toNatClampNeg))), some (.int (s 175 ((11 * (x3 + 1)) + x4).toNatClampNeg)), some (.int (s 175 (((11 * x3) + x4) + 1).toNatClampNeg))]) ja_M_brings_145 rfl ⟨Nat.le_of_ble_eq_true rfl, rfl⟩ rfl ?_
            refine q_aload_n (pc' := 148) ja_M_brings_147 rfl rfl ?_
            refine q_getf (pc' := 151) (v := .ref 175) ja_M_brings_148 rfl (by decide) ⟨rfl, by decide⟩ rfl ?_
            refine q_bipush (pc' := 153) ja_M_brings_151 rfl 11 (by decide) ?_
            refine q_iload_n (pc' := 154) ja_M_brings_153 rfl rfl ?_
            refine q_imul (pc' := 155) ja_M_brings_154 rfl ?_
            refine q_iload (pc' := 157) ja_M_brings_155 rfl rfl ?_
            refine q_iadd (pc' := 158) ja_M_brings_157 rfl ?_
            refine q_iload (pc' := 160) ja_M_brings_158 rfl rfl ?_
            refine q_iast (pc' := 161) ja_M_brings_160 rfl (by decide) (l := 121) rfl (k22 h2 h4 h6 h10 h12) ?_
            intro s6 e6
            refine q_iinc (pc' := 164) (ls' := [some (.ref 146), some (.int x1), some (.int x2), some (.int x3), some (.int (x4 + (-1))), some (.int (1 + (s 175 (((11 * (x3 + 1)) + x4) + 1).toNatClampNeg))), some (.int (s 175 ((11 * (x3 + 1)) + x4).toNatClampNeg)), some (.int (s 175 (((11 * x3) + x4) + 1).toNatClampNeg))]) ja_M_brings_161 rfl rfl (x4 + (-1)) rfl ⟨Nat.le_of_ble_eq_true rfl, rfl⟩ rfl ?_
            refine q_goto ja_M_brings_164 ?_
            exact (k23 h2 h4 h6 h10 h12 s6 e6)
set_option maxRecDepth 20000 in
theorem t_M_byteAt {G : jv_X} {d : Nat} {B : Option Value → jg_H → Prop} {s : jg_H} (a1 : Int32)
    (k1 : ¬ a1 < (s 146 38) → B (some (.int (-1))) s)
    (k2 : a1 < (s 146 38) → jv_in a1 200 = true)
    (k3 : a1 < (s 146 38) → B (some (.int (s 162 a1.toNatClampNeg))) s) :
    q_P G (d + 1) 135 [.ref 146, .int a1] s B := by
  refine q_in (M := jm_M_byteAt) rfl (Nat.le_of_ble_eq_true rfl) (ls := [some (.ref 146), some (.int a1)]) rfl ?_
  refine q_iload_n (pc' := 1) ja_M_byteAt_0 rfl rfl ?_
  refine q_aload_n (pc' := 2) ja_M_byteAt_1 rfl rfl ?_
  refine q_getf (pc' := 5) (v := .int (s 146 38)) ja_M_byteAt_2 rfl (by decide) ⟨rfl, by decide⟩ rfl ?_
  refine q_ic_ge (pc' := 8) ja_M_byteAt_5 rfl ?_ ?_
  · intro h1
    refine q_iconst (pc' := 18) ja_M_byteAt_17 rfl (-1) (by decide) ?_
    exact q_iret ja_M_byteAt_18 rfl rfl (k1 h1)
  · intro h2
    refine q_aload_n (pc' := 9) ja_M_byteAt_8 rfl rfl ?_
    refine q_getf (pc' := 12) (v := .ref 162) ja_M_byteAt_9 rfl (by decide) ⟨rfl, by decide⟩ rfl ?_
    refine q_iload_n (pc' := 13) ja_M_byteAt_12 rfl rfl ?_
    refine q_iald (pc' := 14) (v := .int (s 162 a1.toNatClampNeg)) ja_M_byteAt_13 rfl (by decide) (l := 200) rfl (k2 h2) rfl ?_
    refine q_goto ja_M_byteAt_14 ?_
    exact q_iret ja_M_byteAt_18 rfl rfl (k3 h2)
set_option maxRecDepth 20000 in
theorem t_M_call {G : jv_X} {d : Nat} {B : Option Value → jg_H → Prop} {s : jg_H} 
    (k1 : ¬ (s 146 13) = (-1) → B (some (.int (-3))) s)
    (k2 : (s 146 13) = (-1) → ¬ (s 146 11) = 0 → ∀ s1 : jg_H, s1 = jg_up s 146 13 (s 156 0) → jv_in (s1 146 13) 8 = true)
    (k3 : (s 146 13) = (-1) → ¬ (s 146 11) = 0 → ∀ s1 : jg_H, s1 = jg_up s 146 13 (s 156 0) → ∀ s2 : jg_H, s2 = jg_up s1 152 (s1 146 13).toNatClampNeg 2 → ∀ s3 : jg_H, s3 = jg_up s2 146 11 ((s2 146 11) - 1) → q_W G d jm_M_call B 50 [some (.ref 146), some (.int 0)] [] s3)
    (k4 : (s 146 13) = (-1) → (s 146 11) = 0 → B (some (.int (-3))) s) :
    q_P G (d + 1) 174 [.ref 146] s B := by
  refine q_in (M := jm_M_call) rfl (Nat.le_of_ble_eq_true rfl) (ls := [some (.ref 146), none]) rfl ?_
  refine q_aload_n (pc' := 1) ja_M_call_0 rfl rfl ?_
  refine q_getf (pc' := 4) (v := .int (s 146 13)) ja_M_call_1 rfl (by decide) ⟨rfl, by decide⟩ rfl ?_
  refine q_iconst (pc' := 5) ja_M_call_4 rfl (-1) (by decide) ?_
  refine q_ic_ne (pc' := 8) ja_M_call_5 rfl ?_ ?_
  · intro h1
    refine q_bipush (pc' := 17) ja_M_call_15 rfl (-3) (by decide) ?_
    exact q_iret ja_M_call_17 rfl rfl (k1 h1)
  · intro h2
    refine q_aload_n (pc' := 9) ja_M_call_8 rfl rfl ?_
    refine q_getf (pc' := 12) (v := .int (s 146 11)) ja_M_call_9 rfl (by decide) ⟨rfl, by decide⟩ rfl ?_
    refine q_if_ne (pc' := 15) ja_M_call_12 rfl ?_ ?_
    · intro h3
      refine q_aload_n (pc' := 19) ja_M_call_18 rfl rfl ?_
      refine q_aload_n (pc' := 20) ja_M_call_19 rfl rfl ?_
      refine q_getf (pc' := 23) (v := .ref 156) ja_M_call_20 rfl (by decide) ⟨rfl, by decide⟩ rfl ?_
      refine q_iconst (pc' := 24) ja_M_call_23 rfl 0 (by decide) ?_
      refine q_iald (pc' := 25) (v := .int (s 156 0)) ja_M_call_24 rfl (by decide) (l := 8) rfl (by decide) rfl ?_
      refine q_putf (pc' := 28) ja_M_call_25 rfl (by decide) rfl rfl rfl ?_
      intro s1 e1
      refine q_aload_n (pc' := 29) ja_M_call_28 rfl rfl ?_
      refine q_getf (pc' := 32) (v := .ref 152) ja_M_call_29 rfl (by decide) ⟨rfl, by decide⟩ rfl ?_
      refine q_aload_n (pc' := 33) ja_M_call_32 rfl rfl ?_
      refine q_getf (pc' := 36) (v := .int (s1 146 13)) ja_M_call_33 rfl (by decide) ⟨rfl, by decide⟩ rfl ?_
      refine q_iconst (pc' := 37) ja_M_call_36 rfl 2 (by decide) ?_
      refine q_iast (pc' := 38) ja_M_call_37 rfl (by decide) (l := 8) rfl (k2 h2 h3 s1 e1) ?_
      intro s2 e2
      refine q_aload_n (pc' := 39) ja_M_call_38 rfl rfl ?_
      refine q_dup (pc' := 40) ja_M_call_39 rfl rfl ?_
      refine q_getf (pc' := 43) (v := .int (s2 146 11)) ja_M_call_40 rfl (by decide) ⟨rfl, by decide⟩ rfl ?_
      refine q_iconst (pc' := 44) ja_M_call_43 rfl 1 (by decide) ?_
      refine q_isub (pc' := 45) ja_M_call_44 rfl ?_
      refine q_putf (pc' := 48) ja_M_call_45 rfl (by decide) rfl rfl rfl ?_
      intro s3 e3
      refine q_iconst (pc' := 49) ja_M_call_48 rfl 0 (by decide) ?_
      refine q_istore_n (pc' := 50) (ls' := [some (.ref 146), some (.int 0)]) ja_M_call_49 rfl ⟨Nat.le_of_ble_eq_true rfl, rfl⟩ rfl ?_
      exact (k3 h2 h3 s1 e1 s2 e2 s3 e3)
    · intro h4
      refine q_bipush (pc' := 17) ja_M_call_15 rfl (-3) (by decide) ?_
      exact q_iret ja_M_call_17 rfl rfl (k4 h2 h4)
set_option maxRecDepth 20000 in
theorem t_M_call_50 {G : jv_X} {d : Nat} {B : Option Value → jg_H → Prop} {s : jg_H} (x1 : Int32)
    (k1 : ¬ x1 < (s 146 11) → B (some (.int (s 146 13))) s)
    (k2 : x1 < (s 146 11) → jv_in (x1 + 1) 8 = true)
    (k3 : x1 < (s 146 11) → jv_in x1 8 = true)
    (k4 : x1 < (s 146 11) → ∀ s1 : jg_H, s1 = jg_up s 156 x1.toNatClampNeg (s 156 (x1 + 1).toNatClampNeg) → q_W G d jm_M_call B 50 [some (.ref 146), some (.int (x1 + 1))] [] s1) :
    q_W G d jm_M_call B 50 [some (.ref 146), some (.int x1)] [] s := by
  refine q_iload_n (pc' := 51) ja_M_call_50 rfl rfl ?_
  refine q_aload_n (pc' := 52) ja_M_call_51 rfl rfl ?_
  refine q_getf (pc' := 55) (v := .int (s 146 11)) ja_M_call_52 rfl (by decide) ⟨rfl, by decide⟩ rfl ?_
  refine q_ic_ge (pc' := 58) ja_M_call_55 rfl ?_ ?_
  · intro h1
    refine q_aload_n (pc' := 79) ja_M_call_78 rfl rfl ?_
    refine q_getf (pc' := 82) (v := .int (s 146 13)) ja_M_call_79 rfl (by decide) ⟨rfl, by decide⟩ rfl ?_
    exact q_iret ja_M_call_82 rfl rfl (k1 h1)
  · intro h2
    refine q_aload_n (pc' := 59) ja_M_call_58 rfl rfl ?_
    refine q_getf (pc' := 62) (v := .ref 156) ja_M_call_59 rfl (by decide) ⟨rfl, by decide⟩ rfl ?_
    refine q_iload_n (pc' := 63) ja_M_call_62 rfl rfl ?_
    refine q_aload_n (pc' := 64) ja_M_call_63 rfl rfl ?_
    refine q_getf (pc' := 67) (v := .ref 156) ja_M_call_64 rfl (by decide) ⟨rfl, by decide⟩ rfl ?_
    refine q_iload_n (pc' := 68) ja_M_call_67 rfl rfl ?_
    refine q_iconst (pc' := 69) ja_M_call_68 rfl 1 (by decide) ?_
    refine q_iadd (pc' := 70) ja_M_call_69 rfl ?_
    refine q_iald (pc' := 71) (v := .int (s 156 (x1 + 1).toNatClampNeg)) ja_M_call_70 rfl (by decide) (l := 8) rfl (k2 h2) rfl ?_
    refine q_iast (pc' := 72) ja_M_call_71 rfl (by decide) (l := 8) rfl (k3 h2) ?_
    intro s1 e1
    refine q_iinc (pc' := 75) (ls' := [some (.ref 146), some (.int (x1 + 1))]) ja_M_call_72 rfl rfl (x1 + 1) rfl ⟨Nat.le_of_ble_eq_true rfl, rfl⟩ rfl ?_
    refine q_goto ja_M_call_75 ?_
    exact (k4 h2 s1 e1)
set_option maxRecDepth 20000 in
theorem t_M_cannot {G : jv_X} {d : Nat} {B : Option Value → jg_H → Prop} {s : jg_H} 
    (k1 : ¬ (s 146 44) = (-1) → ∀ s1 : jg_H, s1 = jg_up s 146 44 (s 146 44) → B none s1)
    (k2 : (s 146 44) = (-1) → ∀ s2 : jg_H, s2 = jg_up s 146 44 (s 146 41) → B none s2) :
    q_P G (d + 1) 142 [.ref 146] s B := by
  refine q_in (M := jm_M_cannot) rfl (Nat.le_of_ble_eq_true rfl) (ls := [some (.ref 146)]) rfl ?_
  refine q_aload_n (pc' := 1) ja_M_cannot_0 rfl rfl ?_
  refine q_aload_n (pc' := 2) ja_M_cannot_1 rfl rfl ?_
  refine q_getf (pc' := 5) (v := .int (s 146 44)) ja_M_cannot_2 rfl (by decide) ⟨rfl, by decide⟩ rfl ?_
  refine q_iconst (pc' := 6) ja_M_cannot_5 rfl (-1) (by decide) ?_
  refine q_ic_ne (pc' := 9) ja_M_cannot_6 rfl ?_ ?_
  · intro h1
    refine q_aload_n (pc' := 17) ja_M_cannot_16 rfl rfl ?_
    refine q_getf (pc' := 20) (v := .int (s 146 44)) ja_M_cannot_17 rfl (by decide) ⟨rfl, by decide⟩ rfl ?_
    refine q_putf (pc' := 23) ja_M_cannot_20 rfl (by decide) rfl rfl rfl ?_
    intro s1 e1
    exact q_vret ja_M_cannot_23 rfl (k1 h1 s1 e1)
  · intro h2
    refine q_aload_n (pc' := 10) ja_M_cannot_9 rfl rfl ?_
    refine q_getf (pc' := 13) (v := .int (s 146 41)) ja_M_cannot_10 rfl (by decide) ⟨rfl, by decide⟩ rfl ?_
    refine q_goto ja_M_cannot_13 ?_
    refine q_putf (pc' := 23) ja_M_cannot_20 rfl (by decide) rfl rfl rfl ?_
    intro s2 e2
    exact q_vret ja_M_cannot_23 rfl (k2 h2 s2 e2)
set_option maxRecDepth 20000 in
theorem t_M_carries {G : jv_X} {d : Nat} {B : Option Value → jg_H → Prop} {s : jg_H} (a1 : Int32)
    (k1 : jv_in a1 13 = true)
    (k2 : (s 157 a1.toNatClampNeg) = 0 → jv_in (s 146 13) 8 = true)
    (k3 : (s 157 a1.toNatClampNeg) = 0 → ∀ s1 : jg_H, s1 = jg_up s 152 (s 146 13).toNatClampNeg 3 → jv_in (s1 146 13) 8 = true)
    (k4 : (s 157 a1.toNatClampNeg) = 0 → ∀ s1 : jg_H, s1 = jg_up s 152 (s 146 13).toNatClampNeg 3 → jv_in (s1 146 13) 8 = true)
    (k5 : (s 157 a1.toNatClampNeg) = 0 → ∀ s1 : jg_H, s1 = jg_up s 152 (s 146 13).toNatClampNeg 3 → ∀ s2 : jg_H, s2 = jg_up s1 155 (s1 146 13).toNatClampNeg (s1 155 (s1 146 13).toNatClampNeg) → ∀ s3 : jg_H, s3 = jg_up s2 146 13 (-1) → ∀ s4 : jg_H, s4 = jg_up s3 146 18 0 → ∀ s5 : jg_H, s5 = jg_up s4 146 19 0 → B none s5)
    (k6 : ¬ (s 157 a1.toNatClampNeg) = 0 → (s 157 a1.toNatClampNeg) = 4 → jv_in (s 146 13) 8 = true)
    (k7 : ¬ (s 157 a1.toNatClampNeg) = 0 → (s 157 a1.toNatClampNeg) = 4 → ∀ s6 : jg_H, s6 = jg_up s 152 (s 146 13).toNatClampNeg 4 → jv_in (s6 146 13) 8 = true)
    (k8 : ¬ (s 157 a1.toNatClampNeg) = 0 → (s 157 a1.toNatClampNeg) = 4 → ∀ s6 : jg_H, s6 = jg_up s 152 (s 146 13).toNatClampNeg 4 → jv_in (s6 146 13) 8 = true)
    (k9 : ¬ (s 157 a1.toNatClampNeg) = 0 → (s 157 a1.toNatClampNeg) = 4 → ∀ s6 : jg_H, s6 = jg_up s 152 (s 146 13).toNatClampNeg 4 → ∀ s7 : jg_H, s7 = jg_up s6 155 (s6 146 13).toNatClampNeg (s6 155 (s6 146 13).toNatClampNeg) → ∀ s8 : jg_H, s8 = jg_up s7 146 13 (-1) → ∀ s9 : jg_H, s9 = jg_up s8 146 18 0 → ∀ s10 : jg_H, s10 = jg_up s9 146 19 0 → B none s10)
    (k10 : ¬ (s 157 a1.toNatClampNeg) = 0 → ¬ (s 157 a1.toNatClampNeg) = 4 → (s 157 a1.toNatClampNeg) = 5 → jv_in (s 146 13) 8 = true)
    (k11 : ¬ (s 157 a1.toNatClampNeg) = 0 → ¬ (s 157 a1.toNatClampNeg) = 4 → (s 157 a1.toNatClampNeg) = 5 → ∀ s11 : jg_H, s11 = jg_up s 152 (s 146 13).toNatClampNeg 0 → jv_in (s11 146 13) 8 = true)
    (k12 : ¬ (s 157 a1.toNatClampNeg) = 0 → ¬ (s 157 a1.toNatClampNeg) = 4 → (s 157 a1.toNatClampNeg) = 5 → ∀ s11 : jg_H, s11 = jg_up s 152 (s 146 13).toNatClampNeg 0 → ∀ s12 : jg_H, s12 = jg_up s11 155 (s11 146 13).toNatClampNeg 0 → ∀ s13 : jg_H, s13 = jg_up s12 146 13 (-1) → ∀ s14 : jg_H, s14 = jg_up s13 146 18 0 → ∀ s15 : jg_H, s15 = jg_up s14 146 19 0 → B none s15)
    (k13 : ¬ (s 157 a1.toNatClampNeg) = 0 → ¬ (s 157 a1.toNatClampNeg) = 4 → ¬ (s 157 a1.toNatClampNeg) = 5 → (s 157 a1.toNatClampNeg) = 6 → jv_in a1 13 = true)
    (k14 : ¬ (s 157 a1.toNatClampNeg) = 0 → ¬ (s 157 a1.toNatClampNeg) = 4 → ¬ (s 157 a1.toNatClampNeg) = 5 → (s 157 a1.toNatClampNeg) = 6 → ∀ s16 : jg_H, s16 = jg_up s 146 15 (s 160 a1.toNatClampNeg) → B none s16)
    (k15 : ¬ (s 157 a1.toNatClampNeg) = 0 → ¬ (s 157 a1.toNatClampNeg) = 4 → ¬ (s 157 a1.toNatClampNeg) = 5 → ¬ (s 157 a1.toNatClampNeg) = 6 → jv_in a1 13 = true)
    (k16 : ¬ (s 157 a1.toNatClampNeg) = 0 → ¬ (s 157 a1.toNatClampNeg) = 4 → ¬ (s 157 a1.toNatClampNeg) = 5 → ¬ (s 157 a1.toNatClampNeg) = 6 → (s 159 a1.toNatClampNeg) = (-1) → B none s)
    (k17 : ¬ (s 157 a1.toNatClampNeg) = 0 → ¬ (s 157 a1.toNatClampNeg) = 4 → ¬ (s 157 a1.toNatClampNeg) = 5 → ¬ (s 157 a1.toNatClampNeg) = 6 → ¬ (s 159 a1.toNatClampNeg) = (-1) → jv_in a1 13 = true)
    (k18 : ¬ (s 157 a1.toNatClampNeg) = 0 → ¬ (s 157 a1.toNatClampNeg) = 4 → ¬ (s 157 a1.toNatClampNeg) = 5 → ¬ (s 157 a1.toNatClampNeg) = 6 → ¬ (s 159 a1.toNatClampNeg) = (-1) → ¬ (s 157 a1.toNatClampNeg) = 2 → jv_in a1 13 = true)
    (k19 : ¬ (s 157 a1.toNatClampNeg) = 0 → ¬ (s 157 a1.toNatClampNeg) = 4 → ¬ (s 157 a1.toNatClampNeg) = 5 → ¬ (s 157 a1.toNatClampNeg) = 6 → ¬ (s 159 a1.toNatClampNeg) = (-1) → ¬ (s 157 a1.toNatClampNeg) = 2 → (s 161 a1.toNatClampNeg) = 0 → jv_in a1 13 = true)
    (k20 : ¬ (s 157 a1.toNatClampNeg) = 0 → ¬ (s 157 a1.toNatClampNeg) = 4 → ¬ (s 157 a1.toNatClampNeg) = 5 → ¬ (s 157 a1.toNatClampNeg) = 6 → ¬ (s 159 a1.toNatClampNeg) = (-1) → ¬ (s 157 a1.toNatClampNeg) = 2 → (s 161 a1.toNatClampNeg) = 0 → q_P G (d + 2) 198 [.ref 146, .int a1] s (fun v t => q_W G (d + 2) jm_M_carries B 104 [some (.ref 146), some (.int a1), some (.int (s 159 a1.toNatClampNeg)), none] (v.toList ++ []) t))
    (k21 : ¬ (s 157 a1.toNatClampNeg) = 0 → ¬ (s 157 a1.toNatClampNeg) = 4 → ¬ (s 157 a1.toNatClampNeg) = 5 → ¬ (s 157 a1.toNatClampNeg) = 6 → ¬ (s 159 a1.toNatClampNeg) = (-1) → ¬ (s 157 a1.toNatClampNeg) = 2 → ¬ (s 161 a1.toNatClampNeg) = 0 → q_P G (d + 2) 198 [.ref 146, .int a1] s (fun v t => q_W G (d + 2) jm_M_carries B 104 [some (.ref 146), some (.int a1), some (.int (s 146 53)), none] (v.toList ++ []) t))
    (k22 : ¬ (s 157 a1.toNatClampNeg) = 0 → ¬ (s 157 a1.toNatClampNeg) = 4 → ¬ (s 157 a1.toNatClampNeg) = 5 → ¬ (s 157 a1.toNatClampNeg) = 6 → ¬ (s 159 a1.toNatClampNeg) = (-1) → (s 157 a1.toNatClampNeg) = 2 → ¬ (s 146 53) < 10 → B none s)
    (k23 : ¬ (s 157 a1.toNatClampNeg) = 0 → ¬ (s 157 a1.toNatClampNeg) = 4 → ¬ (s 157 a1.toNatClampNeg) = 5 → ¬ (s 157 a1.toNatClampNeg) = 6 → ¬ (s 159 a1.toNatClampNeg) = (-1) → (s 157 a1.toNatClampNeg) = 2 → (s 146 53) < 10 → jv_in a1 13 = true)
    (k24 : ¬ (s 157 a1.toNatClampNeg) = 0 → ¬ (s 157 a1.toNatClampNeg) = 4 → ¬ (s 157 a1.toNatClampNeg) = 5 → ¬ (s 157 a1.toNatClampNeg) = 6 → ¬ (s 159 a1.toNatClampNeg) = (-1) → (s 157 a1.toNatClampNeg) = 2 → (s 146 53) < 10 → (s 161 a1.toNatClampNeg) = 0 → jv_in a1 13 = true)
    (k25 : ¬ (s 157 a1.toNatClampNeg) = 0 → ¬ (s 157 a1.toNatClampNeg) = 4 → ¬ (s 157 a1.toNatClampNeg) = 5 → ¬ (s 157 a1.toNatClampNeg) = 6 → ¬ (s 159 a1.toNatClampNeg) = (-1) → (s 157 a1.toNatClampNeg) = 2 → (s 146 53) < 10 → (s 161 a1.toNatClampNeg) = 0 → q_P G (d + 2) 198 [.ref 146, .int a1] s (fun v t => q_W G (d + 2) jm_M_carries B 104 [some (.ref 146), some (.int a1), some (.int (s 159 a1.toNatClampNeg)), none] (v.toList ++ []) t))
    (k26 : ¬ (s 157 a1.toNatClampNeg) = 0 → ¬ (s 157 a1.toNatClampNeg) = 4 → ¬ (s 157 a1.toNatClampNeg) = 5 → ¬ (s 157 a1.toNatClampNeg) = 6 → ¬ (s 159 a1.toNatClampNeg) = (-1) → (s 157 a1.toNatClampNeg) = 2 → (s 146 53) < 10 → ¬ (s 161 a1.toNatClampNeg) = 0 → q_P G (d + 2) 198 [.ref 146, .int a1] s (fun v t => q_W G (d + 2) jm_M_carries B 104 [some (.ref 146), some (.int a1), some (.int (s 146 53)), none] (v.toList ++ []) t)) :
    q_P G (d + 3) 196 [.ref 146, .int a1] s B := by
  refine q_in (M := jm_M_carries) rfl (Nat.le_of_ble_eq_true rfl) (ls := [some (.ref 146), some (.int a1), none, none]) rfl ?_
  refine q_aload_n (pc' := 1) ja_M_carries_0 rfl rfl ?_
  refine q_getf (pc' := 4) (v := .ref 157) ja_M_carries_1 rfl (by decide) ⟨rfl, by decide⟩ rfl ?_
  refine q_iload_n (pc' := 5) ja_M_carries_4 rfl rfl ?_
  refine q_iald (pc' := 6) (v := .int (s 157 a1.toNatClampNeg)) ja_M_carries_5 rfl (by decide) (l := 13) rfl k1 rfl ?_
  by_cases h1 : (s 157 a1.toNatClampNeg) = 0
  · refine q_swE (pc' := 48) ja_M_carries_6 (by rw [h1]; decide) (by rw [h1]; exact ⟨_, rfl, rfl⟩) ?_
    refine q_aload_n (pc' := 49) ja_M_carries_48 rfl rfl ?_
    refine q_iconst (pc' := 50) ja_M_carries_49 rfl 3 (by decide) ?_
    refine q_virt (pc' := 53) (c := 146) (as := [.int 3]) (r := []) ja_M_carries_50 rfl rfl rfl (by decide) ⟨rfl, by decide⟩ ?_
    refine q_in (M := jm_M_isUpNoMore) rfl (Nat.le_of_ble_eq_true rfl) (ls := [some (.ref 146), some (.int 3)]) rfl ?_
    refine q_aload_n (pc' := 1) ja_M_isUpNoMore_0 rfl rfl ?_
    refine q_getf (pc' := 4) (v := .ref 152) ja_M_isUpNoMore_1 rfl (by decide) ⟨rfl, by decide⟩ rfl ?_
    refine q_aload_n (pc' := 5) ja_M_isUpNoMore_4 rfl rfl ?_
    refine q_getf (pc' := 8) (v := .int (s 146 13)) ja_M_isUpNoMore_5 rfl (by decide) ⟨rfl, by decide⟩ rfl ?_
    refine q_iload_n (pc' := 9) ja_M_isUpNoMore_8 rfl rfl ?_
    refine q_iast (pc' := 10) ja_M_isUpNoMore_9 rfl (by decide) (l := 8) rfl (k2 h1) ?_
    intro s1 e1
    refine q_aload_n (pc' := 11) ja_M_isUpNoMore_10 rfl rfl ?_
    refine q_getf (pc' := 14) (v := .ref 155) ja_M_isUpNoMore_11 rfl (by decide) ⟨rfl, by decide⟩ rfl ?_
    refine q_aload_n (pc' := 15) ja_M_isUpNoMore_14 rfl rfl ?_
    refine q_getf (pc' := 18) (v := .int (s1 146 13)) ja_M_isUpNoMore_15 rfl (by decide) ⟨rfl, by decide⟩ rfl ?_
    refine q_iload_n (pc' := 19) ja_M_isUpNoMore_18 rfl rfl ?_
    refine q_if_ne (pc' := 22) ja_M_isUpNoMore_19 rfl (fun _ => ?_) (fun h => absurd h ((by decide : ¬ (3 : Int32) = 0)))
    refine q_aload_n (pc' := 27) ja_M_isUpNoMore_26 rfl rfl ?_
    refine q_getf (pc' := 30) (v := .ref 155) ja_M_isUpNoMore_27 rfl (by decide) ⟨rfl, by decide⟩ rfl ?_
    refine q_aload_n (pc' := 31) ja_M_isUpNoMore_30 rfl rfl ?_
    refine q_getf (pc' := 34) (v := .int (s1 146 13)) ja_M_isUpNoMore_31 rfl (by decide) ⟨rfl, by decide⟩ rfl ?_
    refine q_iald (pc' := 35) (v := .int (s1 155 (s1 146 13).toNatClampNeg)) ja_M_isUpNoMore_34 rfl (by decide) (l := 8) rfl (k3 h1 s1 e1) rfl ?_
    refine q_iast (pc' := 36) ja_M_isUpNoMore_35 rfl (by decide) (l := 8) rfl (k4 h1 s1 e1) ?_
    intro s2 e2
    refine q_aload_n (pc' := 37) ja_M_isUpNoMore_36 rfl rfl ?_
    refine q_iconst (pc' := 38) ja_M_isUpNoMore_37 rfl (-1) (by decide) ?_
    refine q_putf (pc' := 41) ja_M_isUpNoMore_38 rfl (by decide) rfl rfl rfl ?_
    intro s3 e3
    refine q_aload_n (pc' := 42) ja_M_isUpNoMore_41 rfl rfl ?_
    refine q_iconst (pc' := 43) ja_M_isUpNoMore_42 rfl 0 (by decide) ?_
    refine q_putf (pc' := 46) ja_M_isUpNoMore_43 rfl (by decide) rfl rfl rfl ?_
    intro s4 e4
    refine q_aload_n (pc' := 47) ja_M_isUpNoMore_46 rfl rfl ?_
    refine q_iconst (pc' := 48) ja_M_isUpNoMore_47 rfl 0 (by decide) ?_
    refine q_putf (pc' := 51) ja_M_isUpNoMore_48 rfl (by decide) rfl rfl rfl ?_
    intro s5 e5
    refine q_vret ja_M_isUpNoMore_51 rfl ?_
    show q_W _ _ _ _ 53 [some (.ref 146), some (.int a1), none, none] [] s5
    refine q_goto ja_M_carries_53 ?_
    exact q_vret ja_M_carries_192 rfl (k5 h1 s1 e1 s2 e2 s3 e3 s4 e4 s5 e5)
  by_cases h2 : (s 157 a1.toNatClampNeg) = 4
  · refine q_swE (pc' := 56) ja_M_carries_6 (by rw [h2]; decide) (by rw [h2]; exact ⟨_, rfl, rfl⟩) ?_
    refine q_aload_n (pc' := 57) ja_M_carries_56 rfl rfl ?_
    refine q_iconst (pc' := 58) ja_M_carries_57 rfl 4 (by decide) ?_
    refine q_virt (pc' := 61) (c := 146) (as := [.int 4]) (r := []) ja_M_carries_58 rfl rfl rfl (by decide) ⟨rfl, by decide⟩ ?_
    refine q_in (M := jm_M_isUpNoMore) rfl (Nat.le_of_ble_eq_true rfl) (ls := [some (.ref 146), some (.int 4)]) rfl ?_
    refine q_aload_n (pc' := 1) ja_M_isUpNoMore_0 rfl rfl ?_
    refine q_getf (pc' := 4) (v := .ref 152) ja_M_isUpNoMore_1 rfl (by decide) ⟨rfl, by decide⟩ rfl ?_
    refine q_aload_n (pc' := 5) ja_M_isUpNoMore_4 rfl rfl ?_
    refine q_getf (pc' := 8) (v := .int (s 146 13)) ja_M_isUpNoMore_5 rfl (by decide) ⟨rfl, by decide⟩ rfl ?_
    refine q_iload_n (pc' := 9) ja_M_isUpNoMore_8 rfl rfl ?_
    refine q_iast (pc' := 10) ja_M_isUpNoMore_9 rfl (by decide) (l := 8) rfl (k6 h1 h2) ?_
    intro s6 e6
    refine q_aload_n (pc' := 11) ja_M_isUpNoMore_10 rfl rfl ?_
    refine q_getf (pc' := 14) (v := .ref 155) ja_M_isUpNoMore_11 rfl (by decide) ⟨rfl, by decide⟩ rfl ?_
    refine q_aload_n (pc' := 15) ja_M_isUpNoMore_14 rfl rfl ?_
    refine q_getf (pc' := 18) (v := .int (s6 146 13)) ja_M_isUpNoMore_15 rfl (by decide) ⟨rfl, by decide⟩ rfl ?_
    refine q_iload_n (pc' := 19) ja_M_isUpNoMore_18 rfl rfl ?_
    refine q_if_ne (pc' := 22) ja_M_isUpNoMore_19 rfl (fun _ => ?_) (fun h => absurd h ((by decide : ¬ (4 : Int32) = 0)))
    refine q_aload_n (pc' := 27) ja_M_isUpNoMore_26 rfl rfl ?_
    refine q_getf (pc' := 30) (v := .ref 155) ja_M_isUpNoMore_27 rfl (by decide) ⟨rfl, by decide⟩ rfl ?_
    refine q_aload_n (pc' := 31) ja_M_isUpNoMore_30 rfl rfl ?_
    refine q_getf (pc' := 34) (v := .int (s6 146 13)) ja_M_isUpNoMore_31 rfl (by decide) ⟨rfl, by decide⟩ rfl ?_
    refine q_iald (pc' := 35) (v := .int (s6 155 (s6 146 13).toNatClampNeg)) ja_M_isUpNoMore_34 rfl (by decide) (l := 8) rfl (k7 h1 h2 s6 e6) rfl ?_
    refine q_iast (pc' := 36) ja_M_isUpNoMore_35 rfl (by decide) (l := 8) rfl (k8 h1 h2 s6 e6) ?_
    intro s7 e7
    refine q_aload_n (pc' := 37) ja_M_isUpNoMore_36 rfl rfl ?_
    refine q_iconst (pc' := 38) ja_M_isUpNoMore_37 rfl (-1) (by decide) ?_
    refine q_putf (pc' := 41) ja_M_isUpNoMore_38 rfl (by decide) rfl rfl rfl ?_
    intro s8 e8
    refine q_aload_n (pc' := 42) ja_M_isUpNoMore_41 rfl rfl ?_
    refine q_iconst (pc' := 43) ja_M_isUpNoMore_42 rfl 0 (by decide) ?_
    refine q_putf (pc' := 46) ja_M_isUpNoMore_43 rfl (by decide) rfl rfl rfl ?_
    intro s9 e9
    refine q_aload_n (pc' := 47) ja_M_isUpNoMore_46 rfl rfl ?_
    refine q_iconst (pc' := 48) ja_M_isUpNoMore_47 rfl 0 (by decide) ?_
    refine q_putf (pc' := 51) ja_M_isUpNoMore_48 rfl (by decide) rfl rfl rfl ?_
    intro s10 e10
    refine q_vret ja_M_isUpNoMore_51 rfl ?_
    show q_W _ _ _ _ 61 [some (.ref 146), some (.int a1), none, none] [] s10
    refine q_goto ja_M_carries_61 ?_
    exact q_vret ja_M_carries_192 rfl (k9 h1 h2 s6 e6 s7 e7 s8 e8 s9 e9 s10 e10)
  by_cases h3 : (s 157 a1.toNatClampNeg) = 5
  · refine q_swE (pc' := 64) ja_M_carries_6 (by rw [h3]; decide) (by rw [h3]; exact ⟨_, rfl, rfl⟩) ?_
    refine q_aload_n (pc' := 65) ja_M_carries_64 rfl rfl ?_
    refine q_iconst (pc' := 66) ja_M_carries_65 rfl 0 (by decide) ?_
    refine q_virt (pc' := 69) (c := 146) (as := [.int 0]) (r := []) ja_M_carries_66 rfl rfl rfl (by decide) ⟨rfl, by decide⟩ ?_
    refine q_in (M := jm_M_isUpNoMore) rfl (Nat.le_of_ble_eq_true rfl) (ls := [some (.ref 146), some (.int 0)]) rfl ?_
    refine q_aload_n (pc' := 1) ja_M_isUpNoMore_0 rfl rfl ?_
    refine q_getf (pc' := 4) (v := .ref 152) ja_M_isUpNoMore_1 rfl (by decide) ⟨rfl, by decide⟩ rfl ?_
    refine q_aload_n (pc' := 5) ja_M_isUpNoMore_4 rfl rfl ?_
    refine q_getf (pc' := 8) (v := .int (s 146 13)) ja_M_isUpNoMore_5 rfl (by decide) ⟨rfl, by decide⟩ rfl ?_
    refine q_iload_n (pc' := 9) ja_M_isUpNoMore_8 rfl rfl ?_
    refine q_iast (pc' := 10) ja_M_isUpNoMore_9 rfl (by decide) (l := 8) rfl (k10 h1 h2 h3) ?_
    intro s11 e11
    refine q_aload_n (pc' := 11) ja_M_isUpNoMore_10 rfl rfl ?_
    refine q_getf (pc' := 14) (v := .ref 155) ja_M_isUpNoMore_11 rfl (by decide) ⟨rfl, by decide⟩ rfl ?_
    refine q_aload_n (pc' := 15) ja_M_isUpNoMore_14 rfl rfl ?_
    refine q_getf (pc' := 18) (v := .int (s11 146 13)) ja_M_isUpNoMore_15 rfl (by decide) ⟨rfl, by decide⟩ rfl ?_
    refine q_iload_n (pc' := 19) ja_M_isUpNoMore_18 rfl rfl ?_
    refine q_if_ne (pc' := 22) ja_M_isUpNoMore_19 rfl (fun h => absurd ((by decide : (0 : Int32) = 0)) h) (fun _ => ?_)
    refine q_iconst (pc' := 23) ja_M_isUpNoMore_22 rfl 0 (by decide) ?_
    refine q_goto ja_M_isUpNoMore_23 ?_
    refine q_iast (pc' := 36) ja_M_isUpNoMore_35 rfl (by decide) (l := 8) rfl (k11 h1 h2 h3 s11 e11) ?_
    intro s12 e12
    refine q_aload_n (pc' := 37) ja_M_isUpNoMore_36 rfl rfl ?_
    refine q_iconst (pc' := 38) ja_M_isUpNoMore_37 rfl (-1) (by decide) ?_
    refine q_putf (pc' := 41) ja_M_isUpNoMore_38 rfl (by decide) rfl rfl rfl ?_
    intro s13 e13
    refine q_aload_n (pc' := 42) ja_M_isUpNoMore_41 rfl rfl ?_
    refine q_iconst (pc' := 43) ja_M_isUpNoMore_42 rfl 0 (by decide) ?_
    refine q_putf (pc' := 46) ja_M_isUpNoMore_43 rfl (by decide) rfl rfl rfl ?_
    intro s14 e14
    refine q_aload_n (pc' := 47) ja_M_isUpNoMore_46 rfl rfl ?_
    refine q_iconst (pc' := 48) ja_M_isUpNoMore_47 rfl 0 (by decide) ?_
    refine q_putf (pc' := 51) ja_M_isUpNoMore_48 rfl (by decide) rfl rfl rfl ?_
    intro s15 e15
    refine q_vret ja_M_isUpNoMore_51 rfl ?_
    show q_W _ _ _ _ 69 [some (.ref 146), some (.int a1), none, none] [] s15
    refine q_goto ja_M_carries_69 ?_
    exact q_vret ja_M_carries_192 rfl (k12 h1 h2 h3 s11 e11 s12 e12 s13 e13 s14 e14 s15 e15)
  by_cases h4 : (s 157 a1.toNatClampNeg) = 6
  · refine q_swE (pc' := 72) ja_M_carries_6 (by rw [h4]; decide) (by rw [h4]; exact ⟨_, rfl, rfl⟩) ?_
    refine q_aload_n (pc' := 73) ja_M_carries_72 rfl rfl ?_
    refine q_aload_n (pc' := 74) ja_M_carries_73 rfl rfl ?_
    refine q_getf (pc' := 77) (v := .ref 160) ja_M_carries_74 rfl (by decide) ⟨rfl, by decide⟩ rfl ?_
    refine q_iload_n (pc' := 78) ja_M_carries_77 rfl rfl ?_
    refine q_iald (pc' := 79) (v := .int (s 160 a1.toNatClampNeg)) ja_M_carries_78 rfl (by decide) (l := 13) rfl (k13 h1 h2 h3 h4) rfl ?_
    refine q_putf (pc' := 82) ja_M_carries_79 rfl (by decide) rfl rfl rfl ?_
    intro s16 e16
    refine q_goto ja_M_carries_82 ?_
    exact q_vret ja_M_carries_192 rfl (k14 h1 h2 h3 h4 s16 e16)
  refine q_swD (pc' := 85) ja_M_carries_6 [0, 4, 5, 6] (List.forall_mem_cons.mpr ⟨fun e => h1 (by rw [e]; decide), (List.forall_mem_cons.mpr ⟨fun e => h2 (by rw [e]; decide), (List.forall_mem_cons.mpr ⟨fun e => h3 (by rw [e]; decide), (List.forall_mem_cons.mpr ⟨fun e => h4 (by rw [e]; decide), (List.forall_mem_nil _)⟩)⟩)⟩)⟩) (by decide) rfl ?_
  refine q_aload_n (pc' := 86) ja_M_carries_85 rfl rfl ?_
  refine q_iload_n (pc' := 87) ja_M_carries_86 rfl rfl ?_
  refine q_virt (pc' := 90) (c := 146) (as := [.int a1]) (r := []) ja_M_carries_87 rfl rfl rfl (by decide) ⟨rfl, by decide⟩ ?_
  refine q_in (M := jm_M_isDoable) rfl (Nat.le_of_ble_eq_true rfl) (ls := [some (.ref 146), some (.int a1)]) rfl ?_
  refine q_aload_n (pc' := 1) ja_M_isDoable_0 rfl rfl ?_
  refine q_getf (pc' := 4) (v := .ref 159) ja_M_isDoable_1 rfl (by decide) ⟨rfl, by decide⟩ rfl ?_
  refine q_iload_n (pc' := 5) ja_M_isDoable_4 rfl rfl ?_
  refine q_iald (pc' := 6) (v := .int (s 159 a1.toNatClampNeg)) ja_M_isDoable_5 rfl (by decide) (l := 13) rfl (k15 h1 h2 h3 h4) rfl ?_
  refine q_iconst (pc' := 7) ja_M_isDoable_6 rfl (-1) (by decide) ?_
  refine q_ic_eq (pc' := 10) ja_M_isDoable_7 rfl ?_ ?_
  · intro h5
    refine q_iconst (pc' := 34) ja_M_isDoable_33 rfl 0 (by decide) ?_
    refine q_iret ja_M_isDoable_34 rfl (by decide) ?_
    show q_W _ _ _ _ 90 [some (.ref 146), some (.int a1), none, none] [.int 0] s
    refine q_if_eq (pc' := 93) ja_M_carries_90 rfl (fun _ => ?_) (fun h => absurd ((by decide : (0 : Int32) = 0)) h)
    exact q_vret ja_M_carries_192 rfl (k16 h1 h2 h3 h4 h5)
  · intro h6
    refine q_aload_n (pc' := 11) ja_M_isDoable_10 rfl rfl ?_
    refine q_getf (pc' := 14) (v := .ref 157) ja_M_isDoable_11 rfl (by decide) ⟨rfl, by decide⟩ rfl ?_
    refine q_iload_n (pc' := 15) ja_M_isDoable_14 rfl rfl ?_
    refine q_iald (pc' := 16) (v := .int (s 157 a1.toNatClampNeg)) ja_M_isDoable_15 rfl (by decide) (l := 13) rfl (k17 h1 h2 h3 h4 h6) rfl ?_
    refine q_iconst (pc' := 17) ja_M_isDoable_16 rfl 2 (by decide) ?_
    refine q_ic_ne (pc' := 20) ja_M_isDoable_17 rfl ?_ ?_
    · intro h7
      refine q_iconst (pc' := 30) ja_M_isDoable_29 rfl 1 (by decide) ?_
      refine q_goto ja_M_isDoable_30 ?_
      refine q_iret ja_M_isDoable_34 rfl (by decide) ?_
      show q_W _ _ _ _ 90 [some (.ref 146), some (.int a1), none, none] [.int 1] s
      refine q_if_eq (pc' := 93) ja_M_carries_90 rfl (fun h => absurd h ((by decide : ¬ (1 : Int32) = 0))) (fun _ => ?_)
      refine q_aload_n (pc' := 94) ja_M_carries_93 rfl rfl ?_
      refine q_iload_n (pc' := 95) ja_M_carries_94 rfl rfl ?_
      refine q_virt (pc' := 98) (c := 146) (as := [.int a1]) (r := []) ja_M_carries_95 rfl rfl rfl (by decide) ⟨rfl, by decide⟩ ?_
      refine q_in (M := jm_M_sectionOf) rfl (Nat.le_of_ble_eq_true rfl) (ls := [some (.ref 146), some (.int a1)]) rfl ?_
      refine q_aload_n (pc' := 1) ja_M_sectionOf_0 rfl rfl ?_
      refine q_getf (pc' := 4) (v := .ref 161) ja_M_sectionOf_1 rfl (by decide) ⟨rfl, by decide⟩ rfl ?_
      refine q_iload_n (pc' := 5) ja_M_sectionOf_4 rfl rfl ?_
      refine q_bald (pc' := 6) (v := .int (s 161 a1.toNatClampNeg)) ja_M_sectionOf_5 rfl (by decide) (l := 13) rfl (k18 h1 h2 h3 h4 h6 h7) rfl ?_
      refine q_if_eq (pc' := 9) ja_M_sectionOf_6 rfl ?_ ?_
      · intro h8
        refine q_aload_n (pc' := 17) ja_M_sectionOf_16 rfl rfl ?_
        refine q_getf (pc' := 20) (v := .ref 159) ja_M_sectionOf_17 rfl (by decide) ⟨rfl, by decide⟩ rfl ?_
        refine q_iload_n (pc' := 21) ja_M_sectionOf_20 rfl rfl ?_
        refine q_iald (pc' := 22) (v := .int (s 159 a1.toNatClampNeg)) ja_M_sectionOf_21 rfl (by decide) (l := 13) rfl (k19 h1 h2 h3 h4 h6 h7 h8) rfl ?_
        refine q_iret ja_M_sectionOf_22 rfl rfl ?_
        show q_W _ _ _ _ 98 [some (.ref 146), some (.int a1), none, none] [.int (s 159 a1.toNatClampNeg)] s
        refine q_istore_n (pc' := 99) (ls' := [some (.ref 146), some (.int a1), some (.int (s 159 a1.toNatClampNeg)), none]) ja_M_carries_98 rfl ⟨Nat.le_of_ble_eq_true rfl, rfl⟩ rfl ?_
        refine q_aload_n (pc' := 100) ja_M_carries_99 rfl rfl ?_
        refine q_iload_n (pc' := 101) ja_M_carries_100 rfl rfl ?_
        refine q_virt (pc' := 104) (c := 146) (as := [.int a1]) (r := []) ja_M_carries_101 rfl rfl rfl (by decide) ⟨rfl, by decide⟩ ?_
        exact (k20 h1 h2 h3 h4 h6 h7 h8)
      · intro h9
        refine q_aload_n (pc' := 10) ja_M_sectionOf_9 rfl rfl ?_
        refine q_getf (pc' := 13) (v := .int (s 146 53)) ja_M_sectionOf_10 rfl (by decide) ⟨rfl, by decide⟩ rfl ?_
        refine q_goto ja_M_sectionOf_13 ?_
        refine q_iret ja_M_sectionOf_22 rfl rfl ?_
        show q_W _ _ _ _ 98 [some (.ref 146), some (.int a1), none, none] [.int (s 146 53)] s
        refine q_istore_n (pc' := 99) (ls' := [some (.ref 146), some (.int a1), some (.int (s 146 53)), none]) ja_M_carries_98 rfl ⟨Nat.le_of_ble_eq_true rfl, rfl⟩ rfl ?_
        refine q_aload_n (pc' := 100) ja_M_carries_99 rfl rfl ?_
        refine q_iload_n (pc' := 101) ja_M_carries_100 rfl rfl ?_
        refine q_virt (pc' := 104) (c := 146) (as := [.int a1]) (r := []) ja_M_carries_101 rfl rfl rfl (by decide) ⟨rfl, by decide⟩ ?_
        exact (k21 h1 h2 h3 h4 h6 h7 h9)
    · intro h10
      refine q_aload_n (pc' := 21) ja_M_isDoable_20 rfl rfl ?_
      refine q_getf (pc' := 24) (v := .int (s 146 53)) ja_M_isDoable_21 rfl (by decide) ⟨rfl, by decide⟩ rfl ?_
      refine q_bipush (pc' := 26) ja_M_isDoable_24 rfl 10 (by decide) ?_
      refine q_ic_ge (pc' := 29) ja_M_isDoable_26 rfl ?_ ?_
      · intro h11
        refine q_iconst (pc' := 34) ja_M_isDoable_33 rfl 0 (by decide) ?_
        refine q_iret ja_M_isDoable_34 rfl (by decide) ?_
        show q_W _ _ _ _ 90 [some (.ref 146), some (.int a1), none, none] [.int 0] s
        refine q_if_eq (pc' := 93) ja_M_carries_90 rfl (fun _ => ?_) (fun h => absurd ((by decide : (0 : Int32) = 0)) h)
        exact q_vret ja_M_carries_192 rfl (k22 h1 h2 h3 h4 h6 h10 h11)
      · intro h12
        refine q_iconst (pc' := 30) ja_M_isDoable_29 rfl 1 (by decide) ?_
        refine q_goto ja_M_isDoable_30 ?_
        refine q_iret ja_M_isDoable_34 rfl (by decide) ?_
        show q_W _ _ _ _ 90 [some (.ref 146), some (.int a1), none, none] [.int 1] s
        refine q_if_eq (pc' := 93) ja_M_carries_90 rfl (fun h => absurd h ((by decide : ¬ (1 : Int32) = 0))) (fun _ => ?_)
        refine q_aload_n (pc' := 94) ja_M_carries_93 rfl rfl ?_
        refine q_iload_n (pc' := 95) ja_M_carries_94 rfl rfl ?_
        refine q_virt (pc' := 98) (c := 146) (as := [.int a1]) (r := []) ja_M_carries_95 rfl rfl rfl (by decide) ⟨rfl, by decide⟩ ?_
        refine q_in (M := jm_M_sectionOf) rfl (Nat.le_of_ble_eq_true rfl) (ls := [some (.ref 146), some (.int a1)]) rfl ?_
        refine q_aload_n (pc' := 1) ja_M_sectionOf_0 rfl rfl ?_
        refine q_getf (pc' := 4) (v := .ref 161) ja_M_sectionOf_1 rfl (by decide) ⟨rfl, by decide⟩ rfl ?_
        refine q_iload_n (pc' := 5) ja_M_sectionOf_4 rfl rfl ?_
        refine q_bald (pc' := 6) (v := .int (s 161 a1.toNatClampNeg)) ja_M_sectionOf_5 rfl (by decide) (l := 13) rfl (k23 h1 h2 h3 h4 h6 h10 h12) rfl ?_
        refine q_if_eq (pc' := 9) ja_M_sectionOf_6 rfl ?_ ?_
        · intro h13
          refine q_aload_n (pc' := 17) ja_M_sectionOf_16 rfl rfl ?_
          refine q_getf (pc' := 20) (v := .ref 159) ja_M_sectionOf_17 rfl (by decide) ⟨rfl, by decide⟩ rfl ?_
          refine q_iload_n (pc' := 21) ja_M_sectionOf_20 rfl rfl ?_
          refine q_iald (pc' := 22) (v := .int (s 159 a1.toNatClampNeg)) ja_M_sectionOf_21 rfl (by decide) (l := 13) rfl (k24 h1 h2 h3 h4 h6 h10 h12 h13) rfl ?_
          refine q_iret ja_M_sectionOf_22 rfl rfl ?_
          show q_W _ _ _ _ 98 [some (.ref 146), some (.int a1), none, none] [.int (s 159 a1.toNatClampNeg)] s
          refine q_istore_n (pc' := 99) (ls' := [some (.ref 146), some (.int a1), some (.int (s 159 a1.toNatClampNeg)), none]) ja_M_carries_98 rfl ⟨Nat.le_of_ble_eq_true rfl, rfl⟩ rfl ?_
          refine q_aload_n (pc' := 100) ja_M_carries_99 rfl rfl ?_
          refine q_iload_n (pc' := 101) ja_M_carries_100 rfl rfl ?_
          refine q_virt (pc' := 104) (c := 146) (as := [.int a1]) (r := []) ja_M_carries_101 rfl rfl rfl (by decide) ⟨rfl, by decide⟩ ?_
          exact (k25 h1 h2 h3 h4 h6 h10 h12 h13)
        · intro h14
          refine q_aload_n (pc' := 10) ja_M_sectionOf_9 rfl rfl ?_
          refine q_getf (pc' := 13) (v := .int (s 146 53)) ja_M_sectionOf_10 rfl (by decide) ⟨rfl, by decide⟩ rfl ?_
          refine q_goto ja_M_sectionOf_13 ?_
          refine q_iret ja_M_sectionOf_22 rfl rfl ?_
          show q_W _ _ _ _ 98 [some (.ref 146), some (.int a1), none, none] [.int (s 146 53)] s
          refine q_istore_n (pc' := 99) (ls' := [some (.ref 146), some (.int a1), some (.int (s 146 53)), none]) ja_M_carries_98 rfl ⟨Nat.le_of_ble_eq_true rfl, rfl⟩ rfl ?_
          refine q_aload_n (pc' := 100) ja_M_carries_99 rfl rfl ?_
          refine q_iload_n (pc' := 101) ja_M_carries_100 rfl rfl ?_
          refine q_virt (pc' := 104) (c := 146) (as := [.int a1]) (r := []) ja_M_carries_101 rfl rfl rfl (by decide) ⟨rfl, by decide⟩ ?_
          exact (k26 h1 h2 h3 h4 h6 h10 h12 h14)
set_option maxRecDepth 20000 in
theorem t_M_carries_104 {G : jv_X} {d : Nat} {B : Option Value → jg_H → Prop} {s : jg_H} (x1 : Int32) (x2 : Int32)
    (k1 : jv_in (s 146 13) 8 = true)
    (k2 : ∀ s1 : jg_H, s1 = jg_up s 153 (s 146 13).toNatClampNeg (s 146 53) → q_W G (d + 2) jm_M_carries B 119 [some (.ref 146), some (.int x1), some (.int x2), some (.int 0)] [] s1) :
    q_W G (d + 2) jm_M_carries B 104 [some (.ref 146), some (.int x1), some (.int x2), none] [] s := by
  refine q_aload_n (pc' := 105) ja_M_carries_104 rfl rfl ?_
  refine q_getf (pc' := 108) (v := .ref 153) ja_M_carries_105 rfl (by decide) ⟨rfl, by decide⟩ rfl ?_
  refine q_aload_n (pc' := 109) ja_M_carries_108 rfl rfl ?_
  refine q_getf (pc' := 112) (v := .int (s 146 13)) ja_M_carries_109 rfl (by decide) ⟨rfl, by decide⟩ rfl ?_
  refine q_aload_n (pc' := 113) ja_M_carries_112 rfl rfl ?_
  refine q_getf (pc' := 116) (v := .int (s 146 53)) ja_M_carries_113 rfl (by decide) ⟨rfl, by decide⟩ rfl ?_
  refine q_iast (pc' := 117) ja_M_carries_116 rfl (by decide) (l := 8) rfl k1 ?_
  intro s1 e1
  refine q_iconst (pc' := 118) ja_M_carries_117 rfl 0 (by decide) ?_
  refine q_istore_n (pc' := 119) (ls' := [some (.ref 146), some (.int x1), some (.int x2), some (.int 0)]) ja_M_carries_118 rfl ⟨Nat.le_of_ble_eq_true rfl, rfl⟩ rfl ?_
  exact (k2 s1 e1)
set_option maxRecDepth 20000 in
theorem t_M_carries_119 {G : jv_X} {d : Nat} {B : Option Value → jg_H → Prop} {s : jg_H} (x1 : Int32) (x2 : Int32) (x3 : Int32)
    (k1 : ¬ x3 < (s 146 53) → q_W G (d + 2) jm_M_carries B 155 [some (.ref 146), some (.int x1), some (.int x2), some (.int 0)] [] s)
    (k2 : x3 < (s 146 53) → jv_in x3 11 = true)
    (k3 : x3 < (s 146 53) → jv_in ((10 * (s 146 13)) + x3) 80 = true)
    (k4 : x3 < (s 146 53) → ∀ s1 : jg_H, s1 = jg_up s 154 ((10 * (s 146 13)) + x3).toNatClampNeg (s 171 x3.toNatClampNeg) → q_W G (d + 2) jm_M_carries B 119 [some (.ref 146), some (.int x1), some (.int x2), some (.int (x3 + 1))] [] s1) :
    q_W G (d + 2) jm_M_carries B 119 [some (.ref 146), some (.int x1), some (.int x2), some (.int x3)] [] s := by
  refine q_iload_n (pc' := 120) ja_M_carries_119 rfl rfl ?_
  refine q_aload_n (pc' := 121) ja_M_carries_120 rfl rfl ?_
  refine q_getf (pc' := 124) (v := .int (s 146 53)) ja_M_carries_121 rfl (by decide) ⟨rfl, by decide⟩ rfl ?_
  refine q_ic_ge (pc' := 127) ja_M_carries_124 rfl ?_ ?_
  · intro h1
    refine q_iconst (pc' := 154) ja_M_carries_153 rfl 0 (by decide) ?_
    refine q_istore_n (pc' := 155) (ls' := [some (.ref 146), some (.int x1), some (.int x2), some (.int 0)]) ja_M_carries_154 rfl ⟨Nat.le_of_ble_eq_true rfl, rfl⟩ rfl ?_
    exact (k1 h1)
  · intro h2
    refine q_aload_n (pc' := 128) ja_M_carries_127 rfl rfl ?_
    refine q_getf (pc' := 131) (v := .ref 154) ja_M_carries_128 rfl (by decide) ⟨rfl, by decide⟩ rfl ?_
    refine q_bipush (pc' := 133) ja_M_carries_131 rfl 10 (by decide) ?_
    refine q_aload_n (pc' := 134) ja_M_carries_133 rfl rfl ?_
    refine q_getf (pc' := 137) (v := .int (s 146 13)) ja_M_carries_134 rfl (by decide) ⟨rfl, by decide⟩ rfl ?_
    refine q_imul (pc' := 138) ja_M_carries_137 rfl ?_
    refine q_iload_n (pc' := 139) ja_M_carries_138 rfl rfl ?_
    refine q_iadd (pc' := 140) ja_M_carries_139 rfl ?_
    refine q_aload_n (pc' := 141) ja_M_carries_140 rfl rfl ?_
    refine q_getf (pc' := 144) (v := .ref 171) ja_M_carries_141 rfl (by decide) ⟨rfl, by decide⟩ rfl ?_
    refine q_iload_n (pc' := 145) ja_M_carries_144 rfl rfl ?_
    refine q_iald (pc' := 146) (v := .int (s 171 x3.toNatClampNeg)) ja_M_carries_145 rfl (by decide) (l := 11) rfl (k2 h2) rfl ?_
    refine q_iast (pc' := 147) ja_M_carries_146 rfl (by decide) (l := 80) rfl (k3 h2) ?_
    intro s1 e1
    refine q_iinc (pc' := 150) (ls' := [some (.ref 146), some (.int x1), some (.int x2), some (.int (x3 + 1))]) ja_M_carries_147 rfl rfl (x3 + 1) rfl ⟨Nat.le_of_ble_eq_true rfl, rfl⟩ rfl ?_
    refine q_goto ja_M_carries_150 ?_
    exact (k4 h2 s1 e1)
set_option maxRecDepth 20000 in
theorem t_M_carries_155 {G : jv_X} {d : Nat} {B : Option Value → jg_H → Prop} {s : jg_H} (x1 : Int32) (x2 : Int32) (x3 : Int32)
    (k1 : ¬ x3 < (s 146 18) → ∀ s1 : jg_H, s1 = jg_up s 146 19 0 → B none s1)
    (k2 : x3 < (s 146 18) → jv_in x1 13 = true)
    (k3 : x3 < (s 146 18) → jv_in x1 13 = true)
    (k4 : x3 < (s 146 18) → jv_in x3 13 = true)
    (k5 : x3 < (s 146 18) → (s 157 x3.toNatClampNeg) < 1 → q_W G (d + 2) jm_M_carries B 155 [some (.ref 146), some (.int x1), some (.int x2), some (.int (x3 + 1))] [] s)
    (k6 : x3 < (s 146 18) → ¬ (s 157 x3.toNatClampNeg) < 1 → ¬ (s 157 x3.toNatClampNeg) ≤ 3 → q_W G (d + 2) jm_M_carries B 155 [some (.ref 146), some (.int x1), some (.int x2), some (.int (x3 + 1))] [] s)
    (k7 : x3 < (s 146 18) → ¬ (s 157 x3.toNatClampNeg) < 1 → (s 157 x3.toNatClampNeg) ≤ 3 → jv_in x3 13 = true)
    (k8 : x3 < (s 146 18) → ¬ (s 157 x3.toNatClampNeg) < 1 → (s 157 x3.toNatClampNeg) ≤ 3 → ¬ (s 161 x3.toNatClampNeg) = 0 → q_W G (d + 2) jm_M_carries B 155 [some (.ref 146), some (.int x1), some (.int x2), some (.int (x3 + 1))] [] s)
    (k9 : x3 < (s 146 18) → ¬ (s 157 x3.toNatClampNeg) < 1 → (s 157 x3.toNatClampNeg) ≤ 3 → (s 161 x3.toNatClampNeg) = 0 → jv_in x3 13 = true)
    (k10 : x3 < (s 146 18) → ¬ (s 157 x3.toNatClampNeg) < 1 → (s 157 x3.toNatClampNeg) ≤ 3 → (s 161 x3.toNatClampNeg) = 0 → (s 159 x3.toNatClampNeg) = (-1) → q_W G (d + 2) jm_M_carries B 155 [some (.ref 146), some (.int x1), some (.int x2), some (.int (x3 + 1))] [] s)
    (k11 : x3 < (s 146 18) → ¬ (s 157 x3.toNatClampNeg) < 1 → (s 157 x3.toNatClampNeg) ≤ 3 → (s 161 x3.toNatClampNeg) = 0 → ¬ (s 159 x3.toNatClampNeg) = (-1) → (s 157 x1.toNatClampNeg) = 3 → q_W G (d + 2) jm_M_carries B 155 [some (.ref 146), some (.int x1), some (.int x2), some (.int (x3 + 1))] [] s)
    (k12 : x3 < (s 146 18) → ¬ (s 157 x3.toNatClampNeg) < 1 → (s 157 x3.toNatClampNeg) ≤ 3 → (s 161 x3.toNatClampNeg) = 0 → ¬ (s 159 x3.toNatClampNeg) = (-1) → ¬ (s 157 x1.toNatClampNeg) = 3 → (s 161 x1.toNatClampNeg) = 0 → ¬ (s 157 x1.toNatClampNeg) = 1 → jv_in x3 13 = true)
    (k13 : x3 < (s 146 18) → ¬ (s 157 x3.toNatClampNeg) < 1 → (s 157 x3.toNatClampNeg) ≤ 3 → (s 161 x3.toNatClampNeg) = 0 → ¬ (s 159 x3.toNatClampNeg) = (-1) → ¬ (s 157 x1.toNatClampNeg) = 3 → (s 161 x1.toNatClampNeg) = 0 → ¬ (s 157 x1.toNatClampNeg) = 1 → jv_in x3 13 = true)
    (k14 : x3 < (s 146 18) → ¬ (s 157 x3.toNatClampNeg) < 1 → (s 157 x3.toNatClampNeg) ≤ 3 → (s 161 x3.toNatClampNeg) = 0 → ¬ (s 159 x3.toNatClampNeg) = (-1) → ¬ (s 157 x1.toNatClampNeg) = 3 → (s 161 x1.toNatClampNeg) = 0 → ¬ (s 157 x1.toNatClampNeg) = 1 → (s 159 x3.toNatClampNeg) < x2 → jv_in x3 13 = true)
    (k15 : x3 < (s 146 18) → ¬ (s 157 x3.toNatClampNeg) < 1 → (s 157 x3.toNatClampNeg) ≤ 3 → (s 161 x3.toNatClampNeg) = 0 → ¬ (s 159 x3.toNatClampNeg) = (-1) → ¬ (s 157 x1.toNatClampNeg) = 3 → (s 161 x1.toNatClampNeg) = 0 → ¬ (s 157 x1.toNatClampNeg) = 1 → (s 159 x3.toNatClampNeg) < x2 → ∀ s2 : jg_H, s2 = jg_up s 159 x3.toNatClampNeg ((s 159 x3.toNatClampNeg) + 0) → q_W G (d + 2) jm_M_carries B 155 [some (.ref 146), some (.int x1), some (.int x2), some (.int (x3 + 1))] [] s2)
    (k16 : x3 < (s 146 18) → ¬ (s 157 x3.toNatClampNeg) < 1 → (s 157 x3.toNatClampNeg) ≤ 3 → (s 161 x3.toNatClampNeg) = 0 → ¬ (s 159 x3.toNatClampNeg) = (-1) → ¬ (s 157 x1.toNatClampNeg) = 3 → (s 161 x1.toNatClampNeg) = 0 → ¬ (s 157 x1.toNatClampNeg) = 1 → ¬ (s 159 x3.toNatClampNeg) < x2 → jv_in x3 13 = true)
    (k17 : x3 < (s 146 18) → ¬ (s 157 x3.toNatClampNeg) < 1 → (s 157 x3.toNatClampNeg) ≤ 3 → (s 161 x3.toNatClampNeg) = 0 → ¬ (s 159 x3.toNatClampNeg) = (-1) → ¬ (s 157 x1.toNatClampNeg) = 3 → (s 161 x1.toNatClampNeg) = 0 → ¬ (s 157 x1.toNatClampNeg) = 1 → ¬ (s 159 x3.toNatClampNeg) < x2 → ∀ s3 : jg_H, s3 = jg_up s 159 x3.toNatClampNeg ((s 159 x3.toNatClampNeg) + 1) → q_W G (d + 2) jm_M_carries B 155 [some (.ref 146), some (.int x1), some (.int x2), some (.int (x3 + 1))] [] s3)
    (k18 : x3 < (s 146 18) → ¬ (s 157 x3.toNatClampNeg) < 1 → (s 157 x3.toNatClampNeg) ≤ 3 → (s 161 x3.toNatClampNeg) = 0 → ¬ (s 159 x3.toNatClampNeg) = (-1) → ¬ (s 157 x1.toNatClampNeg) = 3 → (s 161 x1.toNatClampNeg) = 0 → (s 157 x1.toNatClampNeg) = 1 → jv_in x3 13 = true)
    (k19 : x3 < (s 146 18) → ¬ (s 157 x3.toNatClampNeg) < 1 → (s 157 x3.toNatClampNeg) ≤ 3 → (s 161 x3.toNatClampNeg) = 0 → ¬ (s 159 x3.toNatClampNeg) = (-1) → ¬ (s 157 x1.toNatClampNeg) = 3 → (s 161 x1.toNatClampNeg) = 0 → (s 157 x1.toNatClampNeg) = 1 → ¬ (s 159 x3.toNatClampNeg) = x2 → jv_in x3 13 = true)
    (k20 : x3 < (s 146 18) → ¬ (s 157 x3.toNatClampNeg) < 1 → (s 157 x3.toNatClampNeg) ≤ 3 → (s 161 x3.toNatClampNeg) = 0 → ¬ (s 159 x3.toNatClampNeg) = (-1) → ¬ (s 157 x1.toNatClampNeg) = 3 → (s 161 x1.toNatClampNeg) = 0 → (s 157 x1.toNatClampNeg) = 1 → ¬ (s 159 x3.toNatClampNeg) = x2 → (s 159 x3.toNatClampNeg) ≤ x2 → jv_in x3 13 = true)
    (k21 : x3 < (s 146 18) → ¬ (s 157 x3.toNatClampNeg) < 1 → (s 157 x3.toNatClampNeg) ≤ 3 → (s 161 x3.toNatClampNeg) = 0 → ¬ (s 159 x3.toNatClampNeg) = (-1) → ¬ (s 157 x1.toNatClampNeg) = 3 → (s 161 x1.toNatClampNeg) = 0 → (s 157 x1.toNatClampNeg) = 1 → ¬ (s 159 x3.toNatClampNeg) = x2 → (s 159 x3.toNatClampNeg) ≤ x2 → jv_in x3 13 = true)
    (k22 : x3 < (s 146 18) → ¬ (s 157 x3.toNatClampNeg) < 1 → (s 157 x3.toNatClampNeg) ≤ 3 → (s 161 x3.toNatClampNeg) = 0 → ¬ (s 159 x3.toNatClampNeg) = (-1) → ¬ (s 157 x1.toNatClampNeg) = 3 → (s 161 x1.toNatClampNeg) = 0 → (s 157 x1.toNatClampNeg) = 1 → ¬ (s 159 x3.toNatClampNeg) = x2 → (s 159 x3.toNatClampNeg) ≤ x2 → ∀ s4 : jg_H, s4 = jg_up s 159 x3.toNatClampNeg (s 159 x3.toNatClampNeg) → q_W G (d + 2) jm_M_carries B 155 [some (.ref 146), some (.int x1), some (.int x2), some (.int (x3 + 1))] [] s4)
    (k23 : x3 < (s 146 18) → ¬ (s 157 x3.toNatClampNeg) < 1 → (s 157 x3.toNatClampNeg) ≤ 3 → (s 161 x3.toNatClampNeg) = 0 → ¬ (s 159 x3.toNatClampNeg) = (-1) → ¬ (s 157 x1.toNatClampNeg) = 3 → (s 161 x1.toNatClampNeg) = 0 → (s 157 x1.toNatClampNeg) = 1 → ¬ (s 159 x3.toNatClampNeg) = x2 → ¬ (s 159 x3.toNatClampNeg) ≤ x2 → jv_in x3 13 = true)
    (k24 : x3 < (s 146 18) → ¬ (s 157 x3.toNatClampNeg) < 1 → (s 157 x3.toNatClampNeg) ≤ 3 → (s 161 x3.toNatClampNeg) = 0 → ¬ (s 159 x3.toNatClampNeg) = (-1) → ¬ (s 157 x1.toNatClampNeg) = 3 → (s 161 x1.toNatClampNeg) = 0 → (s 157 x1.toNatClampNeg) = 1 → ¬ (s 159 x3.toNatClampNeg) = x2 → ¬ (s 159 x3.toNatClampNeg) ≤ x2 → jv_in x3 13 = true)
    (k25 : x3 < (s 146 18) → ¬ (s 157 x3.toNatClampNeg) < 1 → (s 157 x3.toNatClampNeg) ≤ 3 → (s 161 x3.toNatClampNeg) = 0 → ¬ (s 159 x3.toNatClampNeg) = (-1) → ¬ (s 157 x1.toNatClampNeg) = 3 → (s 161 x1.toNatClampNeg) = 0 → (s 157 x1.toNatClampNeg) = 1 → ¬ (s 159 x3.toNatClampNeg) = x2 → ¬ (s 159 x3.toNatClampNeg) ≤ x2 → ∀ s5 : jg_H, s5 = jg_up s 159 x3.toNatClampNeg ((s 159 x3.toNatClampNeg) - 1) → q_W G (d + 2) jm_M_carries B 155 [some (.ref 146), some (.int x1), some (.int x2), some (.int (x3 + 1))] [] s5)
    (k26 : x3 < (s 146 18) → ¬ (s 157 x3.toNatClampNeg) < 1 → (s 157 x3.toNatClampNeg) ≤ 3 → (s 161 x3.toNatClampNeg) = 0 → ¬ (s 159 x3.toNatClampNeg) = (-1) → ¬ (s 157 x1.toNatClampNeg) = 3 → (s 161 x1.toNatClampNeg) = 0 → (s 157 x1.toNatClampNeg) = 1 → (s 159 x3.toNatClampNeg) = x2 → jv_in x3 13 = true)
    (k27 : x3 < (s 146 18) → ¬ (s 157 x3.toNatClampNeg) < 1 → (s 157 x3.toNatClampNeg) ≤ 3 → (s 161 x3.toNatClampNeg) = 0 → ¬ (s 159 x3.toNatClampNeg) = (-1) → ¬ (s 157 x1.toNatClampNeg) = 3 → (s 161 x1.toNatClampNeg) = 0 → (s 157 x1.toNatClampNeg) = 1 → (s 159 x3.toNatClampNeg) = x2 → ∀ s6 : jg_H, s6 = jg_up s 159 x3.toNatClampNeg (-1) → q_W G (d + 2) jm_M_carries B 155 [some (.ref 146), some (.int x1), some (.int x2), some (.int (x3 + 1))] [] s6)
    (k28 : x3 < (s 146 18) → ¬ (s 157 x3.toNatClampNeg) < 1 → (s 157 x3.toNatClampNeg) ≤ 3 → (s 161 x3.toNatClampNeg) = 0 → ¬ (s 159 x3.toNatClampNeg) = (-1) → ¬ (s 157 x1.toNatClampNeg) = 3 → ¬ (s 161 x1.toNatClampNeg) = 0 → q_W G (d + 2) jm_M_carries B 155 [some (.ref 146), some (.int x1), some (.int x2), some (.int (x3 + 1))] [] s) :
    q_W G (d + 2) jm_M_carries B 155 [some (.ref 146), some (.int x1), some (.int x2), some (.int x3)] [] s := by
  refine q_iload_n (pc' := 156) ja_M_carries_155 rfl rfl ?_
  refine q_aload_n (pc' := 157) ja_M_carries_156 rfl rfl ?_
  refine q_getf (pc' := 160) (v := .int (s 146 18)) ja_M_carries_157 rfl (by decide) ⟨rfl, by decide⟩ rfl ?_
  refine q_ic_ge (pc' := 163) ja_M_carries_160 rfl ?_ ?_
  · intro h1
    refine q_aload_n (pc' := 188) ja_M_carries_187 rfl rfl ?_
    refine q_iconst (pc' := 189) ja_M_carries_188 rfl 0 (by decide) ?_
    refine q_putf (pc' := 192) ja_M_carries_189 rfl (by decide) rfl rfl rfl ?_
    intro s1 e1
    exact q_vret ja_M_carries_192 rfl (k1 h1 s1 e1)
  · intro h2
    refine q_aload_n (pc' := 164) ja_M_carries_163 rfl rfl ?_
    refine q_iload_n (pc' := 165) ja_M_carries_164 rfl rfl ?_
    refine q_aload_n (pc' := 166) ja_M_carries_165 rfl rfl ?_
    refine q_getf (pc' := 169) (v := .ref 157) ja_M_carries_166 rfl (by decide) ⟨rfl, by decide⟩ rfl ?_
    refine q_iload_n (pc' := 170) ja_M_carries_169 rfl rfl ?_
    refine q_iald (pc' := 171) (v := .int (s 157 x1.toNatClampNeg)) ja_M_carries_170 rfl (by decide) (l := 13) rfl (k2 h2) rfl ?_
    refine q_iload_n (pc' := 172) ja_M_carries_171 rfl rfl ?_
    refine q_aload_n (pc' := 173) ja_M_carries_172 rfl rfl ?_
    refine q_getf (pc' := 176) (v := .ref 161) ja_M_carries_173 rfl (by decide) ⟨rfl, by decide⟩ rfl ?_
    refine q_iload_n (pc' := 177) ja_M_carries_176 rfl rfl ?_
    refine q_bald (pc' := 178) (v := .int (s 161 x1.toNatClampNeg)) ja_M_carries_177 rfl (by decide) (l := 13) rfl (k3 h2) rfl ?_
    refine q_virt (pc' := 181) (c := 146) (as := [.int x3, .int (s 157 x1.toNatClampNeg), .int x2, .int (s 161 x1.toNatClampNeg)]) (r := []) ja_M_carries_178 rfl rfl rfl (by decide) ⟨rfl, by decide⟩ ?_
    refine q_in (M := jm_M_follows) rfl (Nat.le_of_ble_eq_true rfl) (ls := [some (.ref 146), some (.int x3), some (.int (s 157 x1.toNatClampNeg)), some (.int x2), some (.int (s 161 x1.toNatClampNeg)), none]) rfl ?_
    refine q_aload_n (pc' := 1) ja_M_follows_0 rfl rfl ?_
    refine q_getf (pc' := 4) (v := .ref 157) ja_M_follows_1 rfl (by decide) ⟨rfl, by decide⟩ rfl ?_
    refine q_iload_n (pc' := 5) ja_M_follows_4 rfl rfl ?_
    refine q_iald (pc' := 6) (v := .int (s 157 x3.toNatClampNeg)) ja_M_follows_5 rfl (by decide) (l := 13) rfl (k4 h2) rfl ?_
    refine q_iconst (pc' := 7) ja_M_follows_6 rfl 1 (by decide) ?_
    refine q_iconst (pc' := 8) ja_M_follows_7 rfl 3 (by decide) ?_
    refine q_stat (pc' := 11) (as := [.int (s 157 x3.toNatClampNeg), .int 1, .int 3]) (r := []) ja_M_follows_8 rfl (by decide) rfl rfl ?_
    refine q_in (M := jm_M_in) rfl (Nat.le_of_ble_eq_true rfl) (ls := [some (.int (s 157 x3.toNatClampNeg)), some (.int 1), some (.int 3)]) rfl ?_
    refine q_iload_n (pc' := 1) ja_M_in_0 rfl rfl ?_
    refine q_iload_n (pc' := 2) ja_M_in_1 rfl rfl ?_
    refine q_ic_lt (pc' := 5) ja_M_in_2 rfl ?_ ?_
    · intro h3
      refine q_iconst (pc' := 15) ja_M_in_14 rfl 0 (by decide) ?_
      refine q_iret ja_M_in_15 rfl (by decide) ?_
      show q_W _ _ _ _ 11 [some (.ref 146), some (.int x3), some (.int (s 157 x1.toNatClampNeg)), some (.int x2), some (.int (s 161 x1.toNatClampNeg)), none] [.int 0] s
      refine q_if_eq (pc' := 14) ja_M_follows_11 rfl (fun _ => ?_) (fun h => absurd ((by decide : (0 : Int32) = 0)) h)
      refine q_iconst (pc' := 38) ja_M_follows_37 rfl 0 (by decide) ?_
      refine q_istore (pc' := 40) (ls' := [some (.ref 146), some (.int x3), some (.int (s 157 x1.toNatClampNeg)), some (.int x2), some (.int (s 161 x1.toNatClampNeg)), some (.int 0)]) ja_M_follows_38 rfl ⟨Nat.le_of_ble_eq_true rfl, rfl⟩ rfl ?_
      refine q_iload (pc' := 42) ja_M_follows_40 rfl rfl ?_
      refine q_if_eq (pc' := 45) ja_M_follows_42 rfl (fun _ => ?_) (fun h => absurd ((by decide : (0 : Int32) = 0)) h)
      refine q_vret ja_M_follows_55 rfl ?_
      show q_W _ _ _ _ 181 [some (.ref 146), some (.int x1), some (.int x2), some (.int x3)] [] s
      refine q_iinc (pc' := 184) (ls' := [some (.ref 146), some (.int x1), some (.int x2), some (.int (x3 + 1))]) ja_M_carries_181 rfl rfl (x3 + 1) rfl ⟨Nat.le_of_ble_eq_true rfl, rfl⟩ rfl ?_
      refine q_goto ja_M_carries_184 ?_
      exact (k5 h2 h3)
    · intro h4
      refine q_iload_n (pc' := 6) ja_M_in_5 rfl rfl ?_
      refine q_iload_n (pc' := 7) ja_M_in_6 rfl rfl ?_
      refine q_ic_gt (pc' := 10) ja_M_in_7 rfl ?_ ?_
      · intro h5
        refine q_iconst (pc' := 15) ja_M_in_14 rfl 0 (by decide) ?_
        refine q_iret ja_M_in_15 rfl (by decide) ?_
        show q_W _ _ _ _ 11 [some (.ref 146), some (.int x3), some (.int (s 157 x1.toNatClampNeg)), some (.int x2), some (.int (s 161 x1.toNatClampNeg)), none] [.int 0] s
        refine q_if_eq (pc' := 14) ja_M_follows_11 rfl (fun _ => ?_) (fun h => absurd ((by decide : (0 : Int32) = 0)) h)
        refine q_iconst (pc' := 38) ja_M_follows_37 rfl 0 (by decide) ?_
        refine q_istore (pc' := 40) (ls' := [some (.ref 146), some (.int x3), some (.int (s 157 x1.toNatClampNeg)), some (.int x2), some (.int (s 161 x1.toNatClampNeg)), some (.int 0)]) ja_M_follows_38 rfl ⟨Nat.le_of_ble_eq_true rfl, rfl⟩ rfl ?_
        refine q_iload (pc' := 42) ja_M_follows_40 rfl rfl ?_
        refine q_if_eq (pc' := 45) ja_M_follows_42 rfl (fun _ => ?_) (fun h => absurd ((by decide : (0 : Int32) = 0)) h)
        refine q_vret ja_M_follows_55 rfl ?_
        show q_W _ _ _ _ 181 [some (.ref 146), some (.int x1), some (.int x2), some (.int x3)] [] s
        refine q_iinc (pc' := 184) (ls' := [some (.ref 146), some (.int x1), some (.int x2), some (.int (x3 + 1))]) ja_M_carries_181 rfl rfl (x3 + 1) rfl ⟨Nat.le_of_ble_eq_true rfl, rfl⟩ rfl ?_
        refine q_goto ja_M_carries_184 ?_
        exact (k6 h2 h4 h5)
      · intro h6
        refine q_iconst (pc' := 11) ja_M_in_10 rfl 1 (by decide) ?_
        refine q_goto ja_M_in_11 ?_
        refine q_iret ja_M_in_15 rfl (by decide) ?_
        show q_W _ _ _ _ 11 [some (.ref 146), some (.int x3), some (.int (s 157 x1.toNatClampNeg)), some (.int x2), some (.int (s 161 x1.toNatClampNeg)), none] [.int 1] s
        refine q_if_eq (pc' := 14) ja_M_follows_11 rfl (fun h => absurd h ((by decide : ¬ (1 : Int32) = 0))) (fun _ => ?_)
        refine q_aload_n (pc' := 15) ja_M_follows_14 rfl rfl ?_
        refine q_getf (pc' := 18) (v := .ref 161) ja_M_follows_15 rfl (by decide) ⟨rfl, by decide⟩ rfl ?_
        refine q_iload_n (pc' := 19) ja_M_follows_18 rfl rfl ?_
        refine q_bald (pc' := 20) (v := .int (s 161 x3.toNatClampNeg)) ja_M_follows_19 rfl (by decide) (l := 13) rfl (k7 h2 h4 h6) rfl ?_
        refine q_if_ne (pc' := 23) ja_M_follows_20 rfl ?_ ?_
        · intro h7
          refine q_iconst (pc' := 38) ja_M_follows_37 rfl 0 (by decide) ?_
          refine q_istore (pc' := 40) (ls' := [some (.ref 146), some (.int x3), some (.int (s 157 x1.toNatClampNeg)), some (.int x2), some (.int (s 161 x1.toNatClampNeg)), some (.int 0)]) ja_M_follows_38 rfl ⟨Nat.le_of_ble_eq_true rfl, rfl⟩ rfl ?_
          refine q_iload (pc' := 42) ja_M_follows_40 rfl rfl ?_
          refine q_if_eq (pc' := 45) ja_M_follows_42 rfl (fun _ => ?_) (fun h => absurd ((by decide : (0 : Int32) = 0)) h)
          refine q_vret ja_M_follows_55 rfl ?_
          show q_W _ _ _ _ 181 [some (.ref 146), some (.int x1), some (.int x2), some (.int x3)] [] s
          refine q_iinc (pc' := 184) (ls' := [some (.ref 146), some (.int x1), some (.int x2), some (.int (x3 + 1))]) ja_M_carries_181 rfl rfl (x3 + 1) rfl ⟨Nat.le_of_ble_eq_true rfl, rfl⟩ rfl ?_
          refine q_goto ja_M_carries_184 ?_
          exact (k8 h2 h4 h6 h7)
        · intro h8
          refine q_aload_n (pc' := 24) ja_M_follows_23 rfl rfl ?_
          refine q_getf (pc' := 27) (v := .ref 159) ja_M_follows_24 rfl (by decide) ⟨rfl, by decide⟩ rfl ?_
          refine q_iload_n (pc' := 28) ja_M_follows_27 rfl rfl ?_
          refine q_iald (pc' := 29) (v := .int (s 159 x3.toNatClampNeg)) ja_M_follows_28 rfl (by decide) (l := 13) rfl (k9 h2 h4 h6 h8) rfl ?_
          refine q_iconst (pc' := 30) ja_M_follows_29 rfl (-1) (by decide) ?_
          refine q_ic_eq (pc' := 33) ja_M_follows_30 rfl ?_ ?_
          · intro h9
            refine q_iconst (pc' := 38) ja_M_follows_37 rfl 0 (by decide) ?_
            refine q_istore (pc' := 40) (ls' := [some (.ref 146), some (.int x3), some (.int (s 157 x1.toNatClampNeg)), some (.int x2), some (.int (s 161 x1.toNatClampNeg)), some (.int 0)]) ja_M_follows_38 rfl ⟨Nat.le_of_ble_eq_true rfl, rfl⟩ rfl ?_
            refine q_iload (pc' := 42) ja_M_follows_40 rfl rfl ?_
            refine q_if_eq (pc' := 45) ja_M_follows_42 rfl (fun _ => ?_) (fun h => absurd ((by decide : (0 : Int32) = 0)) h)
            refine q_vret ja_M_follows_55 rfl ?_
            show q_W _ _ _ _ 181 [some (.ref 146), some (.int x1), some (.int x2), some (.int x3)] [] s
            refine q_iinc (pc' := 184) (ls' := [some (.ref 146), some (.int x1), some (.int x2), some (.int (x3 + 1))]) ja_M_carries_181 rfl rfl (x3 + 1) rfl ⟨Nat.le_of_ble_eq_true rfl, rfl⟩ rfl ?_
            refine q_goto ja_M_carries_184 ?_
            exact (k10 h2 h4 h6 h8 h9)
          · intro h10
            refine q_iconst (pc' := 34) ja_M_follows_33 rfl 1 (by decide) ?_
            refine q_goto ja_M_follows_34 ?_
            refine q_istore (pc' := 40) (ls' := [some (.ref 146), some (.int x3), some (.int (s 157 x1.toNatClampNeg)), some (.int x2), some (.int (s 161 x1.toNatClampNeg)), some (.int 1)]) ja_M_follows_38 rfl ⟨Nat.le_of_ble_eq_true rfl, rfl⟩ rfl ?_
            refine q_iload (pc' := 42) ja_M_follows_40 rfl rfl ?_
            refine q_if_eq (pc' := 45) ja_M_follows_42 rfl (fun h => absurd h ((by decide : ¬ (1 : Int32) = 0))) (fun _ => ?_)
            refine q_iload_n (pc' := 46) ja_M_follows_45 rfl rfl ?_
            refine q_iconst (pc' := 47) ja_M_follows_46 rfl 3 (by decide) ?_
            refine q_ic_eq (pc' := 50) ja_M_follows_47 rfl ?_ ?_
            · intro h11
              refine q_vret ja_M_follows_55 rfl ?_
              show q_W _ _ _ _ 181 [some (.ref 146), some (.int x1), some (.int x2), some (.int x3)] [] s
              refine q_iinc (pc' := 184) (ls' := [some (.ref 146), some (.int x1), some (.int x2), some (.int (x3 + 1))]) ja_M_carries_181 rfl rfl (x3 + 1) rfl ⟨Nat.le_of_ble_eq_true rfl, rfl⟩ rfl ?_
              refine q_goto ja_M_carries_184 ?_
              exact (k11 h2 h4 h6 h8 h10 h11)
            · intro h12
              refine q_iload (pc' := 52) ja_M_follows_50 rfl rfl ?_
              refine q_if_eq (pc' := 55) ja_M_follows_52 rfl ?_ ?_
              · intro h13
                refine q_iload_n (pc' := 57) ja_M_follows_56 rfl rfl ?_
                refine q_iconst (pc' := 58) ja_M_follows_57 rfl 1 (by decide) ?_
                refine q_ic_ne (pc' := 61) ja_M_follows_58 rfl ?_ ?_
                · intro h14
                  refine q_aload_n (pc' := 112) ja_M_follows_111 rfl rfl ?_
                  refine q_getf (pc' := 115) (v := .ref 159) ja_M_follows_112 rfl (by decide) ⟨rfl, by decide⟩ rfl ?_
                  refine q_iload_n (pc' := 116) ja_M_follows_115 rfl rfl ?_
                  refine q_dup2 (pc' := 117) ja_M_follows_116 rfl ⟨rfl, rfl⟩ ?_
                  refine q_iald (pc' := 118) (v := .int (s 159 x3.toNatClampNeg)) ja_M_follows_117 rfl (by decide) (l := 13) rfl (k12 h2 h4 h6 h8 h10 h12 h13 h14) rfl ?_
                  refine q_aload_n (pc' := 119) ja_M_follows_118 rfl rfl ?_
                  refine q_getf (pc' := 122) (v := .ref 159) ja_M_follows_119 rfl (by decide) ⟨rfl, by decide⟩ rfl ?_
                  refine q_iload_n (pc' := 123) ja_M_follows_122 rfl rfl ?_
                  refine q_iald (pc' := 124) (v := .int (s 159 x3.toNatClampNeg)) ja_M_follows_123 rfl (by decide) (l := 13) rfl (k13 h2 h4 h6 h8 h10 h12 h13 h14) rfl ?_
                  refine q_iload_n (pc' := 125) ja_M_follows_124 rfl rfl ?_
                  refine q_ic_lt (pc' := 128) ja_M_follows_125 rfl ?_ ?_
                  · intro h15
                    refine q_iconst (pc' := 133) ja_M_follows_132 rfl 0 (by decide) ?_
                    refine q_iadd (pc' := 134) ja_M_follows_133 rfl ?_
                    refine q_iast (pc' := 135) ja_M_follows_134 rfl (by decide) (l := 13) rfl (k14 h2 h4 h6 h8 h10 h12 h13 h14 h15) ?_
                    intro s2 e2
                    refine q_vret ja_M_follows_135 rfl ?_
                    show q_W _ _ _ _ 181 [some (.ref 146), some (.int x1), some (.int x2), some (.int x3)] [] s2
                    refine q_iinc (pc' := 184) (ls' := [some (.ref 146), some (.int x1), some (.int x2), some (.int (x3 + 1))]) ja_M_carries_181 rfl rfl (x3 + 1) rfl ⟨Nat.le_of_ble_eq_true rfl, rfl⟩ rfl ?_
                    refine q_goto ja_M_carries_184 ?_
                    exact (k15 h2 h4 h6 h8 h10 h12 h13 h14 h15 s2 e2)
                  · intro h16
                    refine q_iconst (pc' := 129) ja_M_follows_128 rfl 1 (by decide) ?_
                    refine q_goto ja_M_follows_129 ?_
                    refine q_iadd (pc' := 134) ja_M_follows_133 rfl ?_
                    refine q_iast (pc' := 135) ja_M_follows_134 rfl (by decide) (l := 13) rfl (k16 h2 h4 h6 h8 h10 h12 h13 h14 h16) ?_
                    intro s3 e3
                    refine q_vret ja_M_follows_135 rfl ?_
                    show q_W _ _ _ _ 181 [some (.ref 146), some (.int x1), some (.int x2), some (.int x3)] [] s3
                    refine q_iinc (pc' := 184) (ls' := [some (.ref 146), some (.int x1), some (.int x2), some (.int (x3 + 1))]) ja_M_carries_181 rfl rfl (x3 + 1) rfl ⟨Nat.le_of_ble_eq_true rfl, rfl⟩ rfl ?_
                    refine q_goto ja_M_carries_184 ?_
                    exact (k17 h2 h4 h6 h8 h10 h12 h13 h14 h16 s3 e3)
                · intro h17
                  refine q_aload_n (pc' := 62) ja_M_follows_61 rfl rfl ?_
                  refine q_getf (pc' := 65) (v := .ref 159) ja_M_follows_62 rfl (by decide) ⟨rfl, by decide⟩ rfl ?_
                  refine q_iload_n (pc' := 66) ja_M_follows_65 rfl rfl ?_
                  refine q_aload_n (pc' := 67) ja_M_follows_66 rfl rfl ?_
                  refine q_getf (pc' := 70) (v := .ref 159) ja_M_follows_67 rfl (by decide) ⟨rfl, by decide⟩ rfl ?_
                  refine q_iload_n (pc' := 71) ja_M_follows_70 rfl rfl ?_
                  refine q_iald (pc' := 72) (v := .int (s 159 x3.toNatClampNeg)) ja_M_follows_71 rfl (by decide) (l := 13) rfl (k18 h2 h4 h6 h8 h10 h12 h13 h17) rfl ?_
                  refine q_iload_n (pc' := 73) ja_M_follows_72 rfl rfl ?_
                  refine q_ic_ne (pc' := 76) ja_M_follows_73 rfl ?_ ?_
                  · intro h18
                    refine q_aload_n (pc' := 81) ja_M_follows_80 rfl rfl ?_
                    refine q_getf (pc' := 84) (v := .ref 159) ja_M_follows_81 rfl (by decide) ⟨rfl, by decide⟩ rfl ?_
                    refine q_iload_n (pc' := 85) ja_M_follows_84 rfl rfl ?_
                    refine q_iald (pc' := 86) (v := .int (s 159 x3.toNatClampNeg)) ja_M_follows_85 rfl (by decide) (l := 13) rfl (k19 h2 h4 h6 h8 h10 h12 h13 h17 h18) rfl ?_
                    refine q_iload_n (pc' := 87) ja_M_follows_86 rfl rfl ?_
                    refine q_ic_le (pc' := 90) ja_M_follows_87 rfl ?_ ?_
                    · intro h19
                      refine q_aload_n (pc' := 102) ja_M_follows_101 rfl rfl ?_
                      refine q_getf (pc' := 105) (v := .ref 159) ja_M_follows_102 rfl (by decide) ⟨rfl, by decide⟩ rfl ?_
                      refine q_iload_n (pc' := 106) ja_M_follows_105 rfl rfl ?_
                      refine q_iald (pc' := 107) (v := .int (s 159 x3.toNatClampNeg)) ja_M_follows_106 rfl (by decide) (l := 13) rfl (k20 h2 h4 h6 h8 h10 h12 h13 h17 h18 h19) rfl ?_
                      refine q_iast (pc' := 108) ja_M_follows_107 rfl (by decide) (l := 13) rfl (k21 h2 h4 h6 h8 h10 h12 h13 h17 h18 h19) ?_
                      intro s4 e4
                      refine q_goto ja_M_follows_108 ?_
                      refine q_vret ja_M_follows_135 rfl ?_
                      show q_W _ _ _ _ 181 [some (.ref 146), some (.int x1), some (.int x2), some (.int x3)] [] s4
                      refine q_iinc (pc' := 184) (ls' := [some (.ref 146), some (.int x1), some (.int x2), some (.int (x3 + 1))]) ja_M_carries_181 rfl rfl (x3 + 1) rfl ⟨Nat.le_of_ble_eq_true rfl, rfl⟩ rfl ?_
                      refine q_goto ja_M_carries_184 ?_
                      exact (k22 h2 h4 h6 h8 h10 h12 h13 h17 h18 h19 s4 e4)
                    · intro h20
                      refine q_aload_n (pc' := 91) ja_M_follows_90 rfl rfl ?_
                      refine q_getf (pc' := 94) (v := .ref 159) ja_M_follows_91 rfl (by decide) ⟨rfl, by decide⟩ rfl ?_
                      refine q_iload_n (pc' := 95) ja_M_follows_94 rfl rfl ?_
                      refine q_iald (pc' := 96) (v := .int (s 159 x3.toNatClampNeg)) ja_M_follows_95 rfl (by decide) (l := 13) rfl (k23 h2 h4 h6 h8 h10 h12 h13 h17 h18 h20) rfl ?_
                      refine q_iconst (pc' := 97) ja_M_follows_96 rfl 1 (by decide) ?_
                      refine q_isub (pc' := 98) ja_M_follows_97 rfl ?_
                      refine q_goto ja_M_follows_98 ?_
                      refine q_iast (pc' := 108) ja_M_follows_107 rfl (by decide) (l := 13) rfl (k24 h2 h4 h6 h8 h10 h12 h13 h17 h18 h20) ?_
                      intro s5 e5
                      refine q_goto ja_M_follows_108 ?_
                      refine q_vret ja_M_follows_135 rfl ?_
                      show q_W _ _ _ _ 181 [some (.ref 146), some (.int x1), some (.int x2), some (.int x3)] [] s5
                      refine q_iinc (pc' := 184) (ls' := [some (.ref 146), some (.int x1), some (.int x2), some (.int (x3 + 1))]) ja_M_carries_181 rfl rfl (x3 + 1) rfl ⟨Nat.le_of_ble_eq_true rfl, rfl⟩ rfl ?_
                      refine q_goto ja_M_carries_184 ?_
                      exact (k25 h2 h4 h6 h8 h10 h12 h13 h17 h18 h20 s5 e5)
                  · intro h21
                    refine q_iconst (pc' := 77) ja_M_follows_76 rfl (-1) (by decide) ?_
                    refine q_goto ja_M_follows_77 ?_
                    refine q_iast (pc' := 108) ja_M_follows_107 rfl (by decide) (l := 13) rfl (k26 h2 h4 h6 h8 h10 h12 h13 h17 h21) ?_
                    intro s6 e6
                    refine q_goto ja_M_follows_108 ?_
                    refine q_vret ja_M_follows_135 rfl ?_
                    show q_W _ _ _ _ 181 [some (.ref 146), some (.int x1), some (.int x2), some (.int x3)] [] s6
                    refine q_iinc (pc' := 184) (ls' := [some (.ref 146), some (.int x1), some (.int x2), some (.int (x3 + 1))]) ja_M_carries_181 rfl rfl (x3 + 1) rfl ⟨Nat.le_of_ble_eq_true rfl, rfl⟩ rfl ?_
                    refine q_goto ja_M_carries_184 ?_
                    exact (k27 h2 h4 h6 h8 h10 h12 h13 h17 h21 s6 e6)
              · intro h22
                refine q_vret ja_M_follows_55 rfl ?_
                show q_W _ _ _ _ 181 [some (.ref 146), some (.int x1), some (.int x2), some (.int x3)] [] s
                refine q_iinc (pc' := 184) (ls' := [some (.ref 146), some (.int x1), some (.int x2), some (.int (x3 + 1))]) ja_M_carries_181 rfl rfl (x3 + 1) rfl ⟨Nat.le_of_ble_eq_true rfl, rfl⟩ rfl ?_
                refine q_goto ja_M_carries_184 ?_
                exact (k28 h2 h4 h6 h8 h10 h12 h22)
set_option maxRecDepth 20000 in
theorem t_M_cell {G : jv_X} {d : Nat} {B : Option Value → jg_H → Prop} {s : jg_H} (a1 : Int32) (a2 : Int32) (a3 : Int32)
    (k1 : a1 < 0 → B (some (.int (-2))) s)
    (k2 : ¬ a1 < 0 → ¬ a1 ≤ 3 → B (some (.int (-2))) s)
    (k3 : ¬ a1 < 0 → a1 ≤ 3 → jv_in a1 4 = true)
    (k4 : ¬ a1 < 0 → a1 ≤ 3 → ¬ (s 166 a1.toNatClampNeg) = (-1) → jv_in a1 4 = true)
    (k5 : ¬ a1 < 0 → a1 ≤ 3 → ¬ (s 166 a1.toNatClampNeg) = (-1) → a2 < 0 → B (some (.int (-12))) s)
    (k6 : ¬ a1 < 0 → a1 ≤ 3 → ¬ (s 166 a1.toNatClampNeg) = (-1) → ¬ a2 < 0 → ¬ a2 ≤ ((s 166 a1.toNatClampNeg) - 1) → B (some (.int (-12))) s)
    (k7 : ¬ a1 < 0 → a1 ≤ 3 → ¬ (s 166 a1.toNatClampNeg) = (-1) → ¬ a2 < 0 → a2 ≤ ((s 166 a1.toNatClampNeg) - 1) → (a3 &&& 255) ≤ 127 → jv_in ((40 * a1) + a2) 160 = true)
    (k8 : ¬ a1 < 0 → a1 ≤ 3 → ¬ (s 166 a1.toNatClampNeg) = (-1) → ¬ a2 < 0 → a2 ≤ ((s 166 a1.toNatClampNeg) - 1) → (a3 &&& 255) ≤ 127 → ∀ s1 : jg_H, s1 = jg_up s 167 ((40 * a1) + a2).toNatClampNeg (a3 &&& 255) → B (some (.int 1)) s1)
    (k9 : ¬ a1 < 0 → a1 ≤ 3 → ¬ (s 166 a1.toNatClampNeg) = (-1) → ¬ a2 < 0 → a2 ≤ ((s 166 a1.toNatClampNeg) - 1) → ¬ (a3 &&& 255) ≤ 127 → jv_in ((40 * a1) + a2) 160 = true)
    (k10 : ¬ a1 < 0 → a1 ≤ 3 → ¬ (s 166 a1.toNatClampNeg) = (-1) → ¬ a2 < 0 → a2 ≤ ((s 166 a1.toNatClampNeg) - 1) → ¬ (a3 &&& 255) ≤ 127 → ∀ s2 : jg_H, s2 = jg_up s 167 ((40 * a1) + a2).toNatClampNeg ((a3 &&& 255) - 256) → B (some (.int 1)) s2)
    (k11 : ¬ a1 < 0 → a1 ≤ 3 → (s 166 a1.toNatClampNeg) = (-1) → B (some (.int (-11))) s) :
    q_P G (d + 3) 217 [.ref 146, .int a1, .int a2, .int a3] s B := by
  refine q_in (M := jm_M_cell) rfl (Nat.le_of_ble_eq_true rfl) (ls := [some (.ref 146), some (.int a1), some (.int a2), some (.int a3), none]) rfl ?_
  refine q_iload_n (pc' := 1) ja_M_cell_0 rfl rfl ?_
  refine q_stat (pc' := 4) (as := [.int a1]) (r := []) ja_M_cell_1 rfl (by decide) rfl rfl ?_
  refine q_in (M := jm_M_isTray) rfl (Nat.le_of_ble_eq_true rfl) (ls := [some (.int a1)]) rfl ?_
  refine q_iload_n (pc' := 1) ja_M_isTray_0 rfl rfl ?_
  refine q_iconst (pc' := 2) ja_M_isTray_1 rfl 0 (by decide) ?_
  refine q_iconst (pc' := 3) ja_M_isTray_2 rfl 3 (by decide) ?_
  refine q_stat (pc' := 6) (as := [.int a1, .int 0, .int 3]) (r := []) ja_M_isTray_3 rfl (by decide) rfl rfl ?_
  refine q_in (M := jm_M_in) rfl (Nat.le_of_ble_eq_true rfl) (ls := [some (.int a1), some (.int 0), some (.int 3)]) rfl ?_
  refine q_iload_n (pc' := 1) ja_M_in_0 rfl rfl ?_
  refine q_iload_n (pc' := 2) ja_M_in_1 rfl rfl ?_
  refine q_ic_lt (pc' := 5) ja_M_in_2 rfl ?_ ?_
  · intro h1
    refine q_iconst (pc' := 15) ja_M_in_14 rfl 0 (by decide) ?_
    refine q_iret ja_M_in_15 rfl (by decide) ?_
    show q_W _ _ _ _ 6 [some (.int a1)] [.int 0] s
    refine q_iret ja_M_isTray_6 rfl (by decide) ?_
    show q_W _ _ _ _ 4 [some (.ref 146), some (.int a1), some (.int a2), some (.int a3), none] [.int 0] s
    refine q_if_ne (pc' := 7) ja_M_cell_4 rfl (fun h => absurd ((by decide : (0 : Int32) = 0)) h) (fun _ => ?_)
    refine q_bipush (pc' := 9) ja_M_cell_7 rfl (-2) (by decide) ?_
    exact q_iret ja_M_cell_9 rfl rfl (k1 h1)
  · intro h2
    refine q_iload_n (pc' := 6) ja_M_in_5 rfl rfl ?_
    refine q_iload_n (pc' := 7) ja_M_in_6 rfl rfl ?_
    refine q_ic_gt (pc' := 10) ja_M_in_7 rfl ?_ ?_
    · intro h3
      refine q_iconst (pc' := 15) ja_M_in_14 rfl 0 (by decide) ?_
      refine q_iret ja_M_in_15 rfl (by decide) ?_
      show q_W _ _ _ _ 6 [some (.int a1)] [.int 0] s
      refine q_iret ja_M_isTray_6 rfl (by decide) ?_
      show q_W _ _ _ _ 4 [some (.ref 146), some (.int a1), some (.int a2), some (.int a3), none] [.int 0] s
      refine q_if_ne (pc' := 7) ja_M_cell_4 rfl (fun h => absurd ((by decide : (0 : Int32) = 0)) h) (fun _ => ?_)
      refine q_bipush (pc' := 9) ja_M_cell_7 rfl (-2) (by decide) ?_
      exact q_iret ja_M_cell_9 rfl rfl (k2 h2 h3)
    · intro h4
      refine q_iconst (pc' := 11) ja_M_in_10 rfl 1 (by decide) ?_
      refine q_goto ja_M_in_11 ?_
      refine q_iret ja_M_in_15 rfl (by decide) ?_
      show q_W _ _ _ _ 6 [some (.int a1)] [.int 1] s
      refine q_iret ja_M_isTray_6 rfl (by decide) ?_
      show q_W _ _ _ _ 4 [some (.ref 146), some (.int a1), some (.int a2), some (.int a3), none] [.int 1] s
      refine q_if_ne (pc' := 7) ja_M_cell_4 rfl (fun _ => ?_) (fun h => absurd h ((by decide : ¬ (1 : Int32) = 0)))
      refine q_aload_n (pc' := 11) ja_M_cell_10 rfl rfl ?_
      refine q_getf (pc' := 14) (v := .ref 166) ja_M_cell_11 rfl (by decide) ⟨rfl, by decide⟩ rfl ?_
      refine q_iload_n (pc' := 15) ja_M_cell_14 rfl rfl ?_
      refine q_iald (pc' := 16) (v := .int (s 166 a1.toNatClampNeg)) ja_M_cell_15 rfl (by decide) (l := 4) rfl (k3 h2 h4) rfl ?_
      refine q_iconst (pc' := 17) ja_M_cell_16 rfl (-1) (by decide) ?_
      refine q_ic_ne (pc' := 20) ja_M_cell_17 rfl ?_ ?_
      · intro h5
        refine q_iload_n (pc' := 24) ja_M_cell_23 rfl rfl ?_
        refine q_iconst (pc' := 25) ja_M_cell_24 rfl 0 (by decide) ?_
        refine q_aload_n (pc' := 26) ja_M_cell_25 rfl rfl ?_
        refine q_getf (pc' := 29) (v := .ref 166) ja_M_cell_26 rfl (by decide) ⟨rfl, by decide⟩ rfl ?_
        refine q_iload_n (pc' := 30) ja_M_cell_29 rfl rfl ?_
        refine q_iald (pc' := 31) (v := .int (s 166 a1.toNatClampNeg)) ja_M_cell_30 rfl (by decide) (l := 4) rfl (k4 h2 h4 h5) rfl ?_
        refine q_iconst (pc' := 32) ja_M_cell_31 rfl 1 (by decide) ?_
        refine q_isub (pc' := 33) ja_M_cell_32 rfl ?_
        refine q_stat (pc' := 36) (as := [.int a2, .int 0, .int ((s 166 a1.toNatClampNeg) - 1)]) (r := []) ja_M_cell_33 rfl (by decide) rfl rfl ?_
        refine q_in (M := jm_M_in) rfl (Nat.le_of_ble_eq_true rfl) (ls := [some (.int a2), some (.int 0), some (.int ((s 166 a1.toNatClampNeg) - 1))]) rfl ?_
        refine q_iload_n (pc' := 1) ja_M_in_0 rfl rfl ?_
        refine q_iload_n (pc' := 2) ja_M_in_1 rfl rfl ?_
        refine q_ic_lt (pc' := 5) ja_M_in_2 rfl ?_ ?_
        · intro h6
          refine q_iconst (pc' := 15) ja_M_in_14 rfl 0 (by decide) ?_
          refine q_iret ja_M_in_15 rfl (by decide) ?_
          show q_W _ _ _ _ 36 [some (.ref 146), some (.int a1), some (.int a2), some (.int a3), none] [.int 0] s
          refine q_if_ne (pc' := 39) ja_M_cell_36 rfl (fun h => absurd ((by decide : (0 : Int32) = 0)) h) (fun _ => ?_)
          refine q_bipush (pc' := 41) ja_M_cell_39 rfl (-12) (by decide) ?_
          exact q_iret ja_M_cell_41 rfl rfl (k5 h2 h4 h5 h6)
        · intro h7
          refine q_iload_n (pc' := 6) ja_M_in_5 rfl rfl ?_
          refine q_iload_n (pc' := 7) ja_M_in_6 rfl rfl ?_
          refine q_ic_gt (pc' := 10) ja_M_in_7 rfl ?_ ?_
          · intro h8
            refine q_iconst (pc' := 15) ja_M_in_14 rfl 0 (by decide) ?_
            refine q_iret ja_M_in_15 rfl (by decide) ?_
            show q_W _ _ _ _ 36 [some (.ref 146), some (.int a1), some (.int a2), some (.int a3), none] [.int 0] s
            refine q_if_ne (pc' := 39) ja_M_cell_36 rfl (fun h => absurd ((by decide : (0 : Int32) = 0)) h) (fun _ => ?_)
            refine q_bipush (pc' := 41) ja_M_cell_39 rfl (-12) (by decide) ?_
            exact q_iret ja_M_cell_41 rfl rfl (k6 h2 h4 h5 h7 h8)
          · intro h9
            refine q_iconst (pc' := 11) ja_M_in_10 rfl 1 (by decide) ?_
            refine q_goto ja_M_in_11 ?_
            refine q_iret ja_M_in_15 rfl (by decide) ?_
            show q_W _ _ _ _ 36 [some (.ref 146), some (.int a1), some (.int a2), some (.int a3), none] [.int 1] s
            refine q_if_ne (pc' := 39) ja_M_cell_36 rfl (fun _ => ?_) (fun h => absurd h ((by decide : ¬ (1 : Int32) = 0)))
            refine q_iload_n (pc' := 43) ja_M_cell_42 rfl rfl ?_
            refine q_sipush (pc' := 46) ja_M_cell_43 rfl 255 (by decide) ?_
            refine q_iand (pc' := 47) ja_M_cell_46 rfl ?_
            refine q_istore (pc' := 49) (ls' := [some (.ref 146), some (.int a1), some (.int a2), some (.int a3), some (.int (a3 &&& 255))]) ja_M_cell_47 rfl ⟨Nat.le_of_ble_eq_true rfl, rfl⟩ rfl ?_
            refine q_aload_n (pc' := 50) ja_M_cell_49 rfl rfl ?_
            refine q_getf (pc' := 53) (v := .ref 167) ja_M_cell_50 rfl (by decide) ⟨rfl, by decide⟩ rfl ?_
            refine q_bipush (pc' := 55) ja_M_cell_53 rfl 40 (by decide) ?_
            refine q_iload_n (pc' := 56) ja_M_cell_55 rfl rfl ?_
            refine q_imul (pc' := 57) ja_M_cell_56 rfl ?_
            refine q_iload_n (pc' := 58) ja_M_cell_57 rfl rfl ?_
            refine q_iadd (pc' := 59) ja_M_cell_58 rfl ?_
            refine q_iload (pc' := 61) ja_M_cell_59 rfl rfl ?_
            refine q_bipush (pc' := 63) ja_M_cell_61 rfl 127 (by decide) ?_
            refine q_ic_le (pc' := 66) ja_M_cell_63 rfl ?_ ?_
            · intro h10
              refine q_iload (pc' := 77) ja_M_cell_75 rfl rfl ?_
              refine q_iast (pc' := 78) ja_M_cell_77 rfl (by decide) (l := 160) rfl (k7 h2 h4 h5 h7 h9 h10) ?_
              intro s1 e1
              refine q_iconst (pc' := 79) ja_M_cell_78 rfl 1 (by decide) ?_
              exact q_iret ja_M_cell_79 rfl rfl (k8 h2 h4 h5 h7 h9 h10 s1 e1)
            · intro h11
              refine q_iload (pc' := 68) ja_M_cell_66 rfl rfl ?_
              refine q_sipush (pc' := 71) ja_M_cell_68 rfl 256 (by decide) ?_
              refine q_isub (pc' := 72) ja_M_cell_71 rfl ?_
              refine q_goto ja_M_cell_72 ?_
              refine q_iast (pc' := 78) ja_M_cell_77 rfl (by decide) (l := 160) rfl (k9 h2 h4 h5 h7 h9 h11) ?_
              intro s2 e2
              refine q_iconst (pc' := 79) ja_M_cell_78 rfl 1 (by decide) ?_
              exact q_iret ja_M_cell_79 rfl rfl (k10 h2 h4 h5 h7 h9 h11 s2 e2)
      · intro h12
        refine q_bipush (pc' := 22) ja_M_cell_20 rfl (-11) (by decide) ?_
        exact q_iret ja_M_cell_22 rfl rfl (k11 h2 h4 h12)
set_option maxRecDepth 20000 in
theorem t_M_comes {G : jv_X} {d : Nat} {B : Option Value → jg_H → Prop} {s : jg_H} (a1 : Int32) (a2 : Int32)
    (k1 : a1 < 0 → B (some (.int (-2))) s)
    (k2 : ¬ a1 < 0 → ¬ a1 ≤ ((s 146 0) - 1) → B (some (.int (-2))) s)
    (k3 : ¬ a1 < 0 → a1 ≤ ((s 146 0) - 1) → jv_in a1 15 = true)
    (k4 : ¬ a1 < 0 → a1 ≤ ((s 146 0) - 1) → (s 151 a1.toNatClampNeg) = a2 → jv_in a1 15 = true)
    (k5 : ¬ a1 < 0 → a1 ≤ ((s 146 0) - 1) → (s 151 a1.toNatClampNeg) = a2 → a2 = 0 ∨ a2 = 1)
    (k6 : ¬ a1 < 0 → a1 ≤ ((s 146 0) - 1) → (s 151 a1.toNatClampNeg) = a2 → ∀ s1 : jg_H, s1 = jg_up s 151 a1.toNatClampNeg a2 → B (some (.int 0)) s1)
    (k7 : ¬ a1 < 0 → a1 ≤ ((s 146 0) - 1) → ¬ (s 151 a1.toNatClampNeg) = a2 → jv_in a1 15 = true)
    (k8 : ¬ a1 < 0 → a1 ≤ ((s 146 0) - 1) → ¬ (s 151 a1.toNatClampNeg) = a2 → a2 = 0 ∨ a2 = 1)
    (k9 : ¬ a1 < 0 → a1 ≤ ((s 146 0) - 1) → ¬ (s 151 a1.toNatClampNeg) = a2 → ∀ s2 : jg_H, s2 = jg_up s 151 a1.toNatClampNeg a2 → B (some (.int 1)) s2) :
    q_P G (d + 3) 156 [.ref 146, .int a1, .int a2] s B := by
  refine q_in (M := jm_M_comes) rfl (Nat.le_of_ble_eq_true rfl) (ls := [some (.ref 146), some (.int a1), some (.int a2), none]) rfl ?_
  refine q_aload_n (pc' := 1) ja_M_comes_0 rfl rfl ?_
  refine q_iload_n (pc' := 2) ja_M_comes_1 rfl rfl ?_
  refine q_virt (pc' := 5) (c := 146) (as := [.int a1]) (r := []) ja_M_comes_2 rfl rfl rfl (by decide) ⟨rfl, by decide⟩ ?_
  refine q_in (M := jm_M_isMember) rfl (Nat.le_of_ble_eq_true rfl) (ls := [some (.ref 146), some (.int a1)]) rfl ?_
  refine q_iload_n (pc' := 1) ja_M_isMember_0 rfl rfl ?_
  refine q_iconst (pc' := 2) ja_M_isMember_1 rfl 0 (by decide) ?_
  refine q_aload_n (pc' := 3) ja_M_isMember_2 rfl rfl ?_
  refine q_getf (pc' := 6) (v := .int (s 146 0)) ja_M_isMember_3 rfl (by decide) ⟨rfl, by decide⟩ rfl ?_
  refine q_iconst (pc' := 7) ja_M_isMember_6 rfl 1 (by decide) ?_
  refine q_isub (pc' := 8) ja_M_isMember_7 rfl ?_
  refine q_stat (pc' := 11) (as := [.int a1, .int 0, .int ((s 146 0) - 1)]) (r := []) ja_M_isMember_8 rfl (by decide) rfl rfl ?_
  refine q_in (M := jm_M_in) rfl (Nat.le_of_ble_eq_true rfl) (ls := [some (.int a1), some (.int 0), some (.int ((s 146 0) - 1))]) rfl ?_
  refine q_iload_n (pc' := 1) ja_M_in_0 rfl rfl ?_
  refine q_iload_n (pc' := 2) ja_M_in_1 rfl rfl ?_
  refine q_ic_lt (pc' := 5) ja_M_in_2 rfl ?_ ?_
  · intro h1
    refine q_iconst (pc' := 15) ja_M_in_14 rfl 0 (by decide) ?_
    refine q_iret ja_M_in_15 rfl (by decide) ?_
    show q_W _ _ _ _ 11 [some (.ref 146), some (.int a1)] [.int 0] s
    refine q_iret ja_M_isMember_11 rfl (by decide) ?_
    show q_W _ _ _ _ 5 [some (.ref 146), some (.int a1), some (.int a2), none] [.int 0] s
    refine q_if_ne (pc' := 8) ja_M_comes_5 rfl (fun h => absurd ((by decide : (0 : Int32) = 0)) h) (fun _ => ?_)
    refine q_bipush (pc' := 10) ja_M_comes_8 rfl (-2) (by decide) ?_
    exact q_iret ja_M_comes_10 rfl rfl (k1 h1)
  · intro h2
    refine q_iload_n (pc' := 6) ja_M_in_5 rfl rfl ?_
    refine q_iload_n (pc' := 7) ja_M_in_6 rfl rfl ?_
    refine q_ic_gt (pc' := 10) ja_M_in_7 rfl ?_ ?_
    · intro h3
      refine q_iconst (pc' := 15) ja_M_in_14 rfl 0 (by decide) ?_
      refine q_iret ja_M_in_15 rfl (by decide) ?_
      show q_W _ _ _ _ 11 [some (.ref 146), some (.int a1)] [.int 0] s
      refine q_iret ja_M_isMember_11 rfl (by decide) ?_
      show q_W _ _ _ _ 5 [some (.ref 146), some (.int a1), some (.int a2), none] [.int 0] s
      refine q_if_ne (pc' := 8) ja_M_comes_5 rfl (fun h => absurd ((by decide : (0 : Int32) = 0)) h) (fun _ => ?_)
      refine q_bipush (pc' := 10) ja_M_comes_8 rfl (-2) (by decide) ?_
      exact q_iret ja_M_comes_10 rfl rfl (k2 h2 h3)
    · intro h4
      refine q_iconst (pc' := 11) ja_M_in_10 rfl 1 (by decide) ?_
      refine q_goto ja_M_in_11 ?_
      refine q_iret ja_M_in_15 rfl (by decide) ?_
      show q_W _ _ _ _ 11 [some (.ref 146), some (.int a1)] [.int 1] s
      refine q_iret ja_M_isMember_11 rfl (by decide) ?_
      show q_W _ _ _ _ 5 [some (.ref 146), some (.int a1), some (.int a2), none] [.int 1] s
      refine q_if_ne (pc' := 8) ja_M_comes_5 rfl (fun _ => ?_) (fun h => absurd h ((by decide : ¬ (1 : Int32) = 0)))
      refine q_aload_n (pc' := 12) ja_M_comes_11 rfl rfl ?_
      refine q_getf (pc' := 15) (v := .ref 151) ja_M_comes_12 rfl (by decide) ⟨rfl, by decide⟩ rfl ?_
      refine q_iload_n (pc' := 16) ja_M_comes_15 rfl rfl ?_
      refine q_bald (pc' := 17) (v := .int (s 151 a1.toNatClampNeg)) ja_M_comes_16 rfl (by decide) (l := 15) rfl (k3 h2 h4) rfl ?_
      refine q_iload_n (pc' := 18) ja_M_comes_17 rfl rfl ?_
      refine q_ic_eq (pc' := 21) ja_M_comes_18 rfl ?_ ?_
      · intro h5
        refine q_iconst (pc' := 26) ja_M_comes_25 rfl 0 (by decide) ?_
        refine q_istore_n (pc' := 27) (ls' := [some (.ref 146), some (.int a1), some (.int a2), some (.int 0)]) ja_M_comes_26 rfl ⟨Nat.le_of_ble_eq_true rfl, rfl⟩ rfl ?_
        refine q_aload_n (pc' := 28) ja_M_comes_27 rfl rfl ?_
        refine q_getf (pc' := 31) (v := .ref 151) ja_M_comes_28 rfl (by decide) ⟨rfl, by decide⟩ rfl ?_
        refine q_iload_n (pc' := 32) ja_M_comes_31 rfl rfl ?_
        refine q_iload_n (pc' := 33) ja_M_comes_32 rfl rfl ?_
        refine q_bast (pc' := 34) ja_M_comes_33 rfl (by decide) (l := 15) rfl (k4 h2 h4 h5) (k5 h2 h4 h5) ?_
        intro s1 e1
        refine q_iload_n (pc' := 35) ja_M_comes_34 rfl rfl ?_
        exact q_iret ja_M_comes_35 rfl rfl (k6 h2 h4 h5 s1 e1)
      · intro h6
        refine q_iconst (pc' := 22) ja_M_comes_21 rfl 1 (by decide) ?_
        refine q_goto ja_M_comes_22 ?_
        refine q_istore_n (pc' := 27) (ls' := [some (.ref 146), some (.int a1), some (.int a2), some (.int 1)]) ja_M_comes_26 rfl ⟨Nat.le_of_ble_eq_true rfl, rfl⟩ rfl ?_
        refine q_aload_n (pc' := 28) ja_M_comes_27 rfl rfl ?_
        refine q_getf (pc' := 31) (v := .ref 151) ja_M_comes_28 rfl (by decide) ⟨rfl, by decide⟩ rfl ?_
        refine q_iload_n (pc' := 32) ja_M_comes_31 rfl rfl ?_
        refine q_iload_n (pc' := 33) ja_M_comes_32 rfl rfl ?_
        refine q_bast (pc' := 34) ja_M_comes_33 rfl (by decide) (l := 15) rfl (k7 h2 h4 h6) (k8 h2 h4 h6) ?_
        intro s2 e2
        refine q_iload_n (pc' := 35) ja_M_comes_34 rfl rfl ?_
        exact q_iret ja_M_comes_35 rfl rfl (k9 h2 h4 h6 s2 e2)
set_option maxRecDepth 20000 in
theorem t_M_confer {G : jv_X} {d : Nat} {B : Option Value → jg_H → Prop} {s : jg_H} (a1 : Int32) (a2 : Int32)
    (k1 : a1 < 0 → B (some (.int (-2))) s)
    (k2 : ¬ a1 < 0 → ¬ a1 ≤ ((s 146 6) - 1) → B (some (.int (-2))) s)
    (k3 : ¬ a1 < 0 → a1 ≤ ((s 146 6) - 1) → a2 < 0 → B (some (.int (-2))) s)
    (k4 : ¬ a1 < 0 → a1 ≤ ((s 146 6) - 1) → ¬ a2 < 0 → ¬ a2 ≤ ((s 146 6) - 1) → B (some (.int (-2))) s)
    (k5 : ¬ a1 < 0 → a1 ≤ ((s 146 6) - 1) → ¬ a2 < 0 → a2 ≤ ((s 146 6) - 1) → ¬ a1 = a2 → q_P G (d + 2) 211 [.ref 146, .int a1, .int a2] s (fun v t => q_W G (d + 2) jm_M_confer B 30 [some (.ref 146), some (.int a1), some (.int a2)] (v.toList ++ []) t))
    (k6 : ¬ a1 < 0 → a1 ≤ ((s 146 6) - 1) → ¬ a2 < 0 → a2 ≤ ((s 146 6) - 1) → a1 = a2 → B (some (.int (-2))) s) :
    q_P G (d + 3) 210 [.ref 146, .int a1, .int a2] s B := by
  refine q_in (M := jm_M_confer) rfl (Nat.le_of_ble_eq_true rfl) (ls := [some (.ref 146), some (.int a1), some (.int a2)]) rfl ?_
  refine q_aload_n (pc' := 1) ja_M_confer_0 rfl rfl ?_
  refine q_iload_n (pc' := 2) ja_M_confer_1 rfl rfl ?_
  refine q_virt (pc' := 5) (c := 146) (as := [.int a1]) (r := []) ja_M_confer_2 rfl rfl rfl (by decide) ⟨rfl, by decide⟩ ?_
  refine q_in (M := jm_M_isBill) rfl (Nat.le_of_ble_eq_true rfl) (ls := [some (.ref 146), some (.int a1)]) rfl ?_
  refine q_iload_n (pc' := 1) ja_M_isBill_0 rfl rfl ?_
  refine q_iconst (pc' := 2) ja_M_isBill_1 rfl 0 (by decide) ?_
  refine q_aload_n (pc' := 3) ja_M_isBill_2 rfl rfl ?_
  refine q_getf (pc' := 6) (v := .int (s 146 6)) ja_M_isBill_3 rfl (by decide) ⟨rfl, by decide⟩ rfl ?_
  refine q_iconst (pc' := 7) ja_M_isBill_6 rfl 1 (by decide) ?_
  refine q_isub (pc' := 8) ja_M_isBill_7 rfl ?_
  refine q_stat (pc' := 11) (as := [.int a1, .int 0, .int ((s 146 6) - 1)]) (r := []) ja_M_isBill_8 rfl (by decide) rfl rfl ?_
  refine q_in (M := jm_M_in) rfl (Nat.le_of_ble_eq_true rfl) (ls := [some (.int a1), some (.int 0), some (.int ((s 146 6) - 1))]) rfl ?_
  refine q_iload_n (pc' := 1) ja_M_in_0 rfl rfl ?_
  refine q_iload_n (pc' := 2) ja_M_in_1 rfl rfl ?_
  refine q_ic_lt (pc' := 5) ja_M_in_2 rfl ?_ ?_
  · intro h1
    refine q_iconst (pc' := 15) ja_M_in_14 rfl 0 (by decide) ?_
    refine q_iret ja_M_in_15 rfl (by decide) ?_
    show q_W _ _ _ _ 11 [some (.ref 146), some (.int a1)] [.int 0] s
    refine q_iret ja_M_isBill_11 rfl (by decide) ?_
    show q_W _ _ _ _ 5 [some (.ref 146), some (.int a1), some (.int a2)] [.int 0] s
    refine q_if_eq (pc' := 8) ja_M_confer_5 rfl (fun _ => ?_) (fun h => absurd ((by decide : (0 : Int32) = 0)) h)
    refine q_bipush (pc' := 23) ja_M_confer_21 rfl (-2) (by decide) ?_
    exact q_iret ja_M_confer_23 rfl rfl (k1 h1)
  · intro h2
    refine q_iload_n (pc' := 6) ja_M_in_5 rfl rfl ?_
    refine q_iload_n (pc' := 7) ja_M_in_6 rfl rfl ?_
    refine q_ic_gt (pc' := 10) ja_M_in_7 rfl ?_ ?_
    · intro h3
      refine q_iconst (pc' := 15) ja_M_in_14 rfl 0 (by decide) ?_
      refine q_iret ja_M_in_15 rfl (by decide) ?_
      show q_W _ _ _ _ 11 [some (.ref 146), some (.int a1)] [.int 0] s
      refine q_iret ja_M_isBill_11 rfl (by decide) ?_
      show q_W _ _ _ _ 5 [some (.ref 146), some (.int a1), some (.int a2)] [.int 0] s
      refine q_if_eq (pc' := 8) ja_M_confer_5 rfl (fun _ => ?_) (fun h => absurd ((by decide : (0 : Int32) = 0)) h)
      refine q_bipush (pc' := 23) ja_M_confer_21 rfl (-2) (by decide) ?_
      exact q_iret ja_M_confer_23 rfl rfl (k2 h2 h3)
    · intro h4
      refine q_iconst (pc' := 11) ja_M_in_10 rfl 1 (by decide) ?_
      refine q_goto ja_M_in_11 ?_
      refine q_iret ja_M_in_15 rfl (by decide) ?_
      show q_W _ _ _ _ 11 [some (.ref 146), some (.int a1)] [.int 1] s
      refine q_iret ja_M_isBill_11 rfl (by decide) ?_
      show q_W _ _ _ _ 5 [some (.ref 146), some (.int a1), some (.int a2)] [.int 1] s
      refine q_if_eq (pc' := 8) ja_M_confer_5 rfl (fun h => absurd h ((by decide : ¬ (1 : Int32) = 0))) (fun _ => ?_)
      refine q_aload_n (pc' := 9) ja_M_confer_8 rfl rfl ?_
      refine q_iload_n (pc' := 10) ja_M_confer_9 rfl rfl ?_
      refine q_virt (pc' := 13) (c := 146) (as := [.int a2]) (r := []) ja_M_confer_10 rfl rfl rfl (by decide) ⟨rfl, by decide⟩ ?_
      refine q_in (M := jm_M_isBill) rfl (Nat.le_of_ble_eq_true rfl) (ls := [some (.ref 146), some (.int a2)]) rfl ?_
      refine q_iload_n (pc' := 1) ja_M_isBill_0 rfl rfl ?_
      refine q_iconst (pc' := 2) ja_M_isBill_1 rfl 0 (by decide) ?_
      refine q_aload_n (pc' := 3) ja_M_isBill_2 rfl rfl ?_
      refine q_getf (pc' := 6) (v := .int (s 146 6)) ja_M_isBill_3 rfl (by decide) ⟨rfl, by decide⟩ rfl ?_
      refine q_iconst (pc' := 7) ja_M_isBill_6 rfl 1 (by decide) ?_
      refine q_isub (pc' := 8) ja_M_isBill_7 rfl ?_
      refine q_stat (pc' := 11) (as := [.int a2, .int 0, .int ((s 146 6) - 1)]) (r := []) ja_M_isBill_8 rfl (by decide) rfl rfl ?_
      refine q_in (M := jm_M_in) rfl (Nat.le_of_ble_eq_true rfl) (ls := [some (.int a2), some (.int 0), some (.int ((s 146 6) - 1))]) rfl ?_
      refine q_iload_n (pc' := 1) ja_M_in_0 rfl rfl ?_
      refine q_iload_n (pc' := 2) ja_M_in_1 rfl rfl ?_
      refine q_ic_lt (pc' := 5) ja_M_in_2 rfl ?_ ?_
      · intro h5
        refine q_iconst (pc' := 15) ja_M_in_14 rfl 0 (by decide) ?_
        refine q_iret ja_M_in_15 rfl (by decide) ?_
        show q_W _ _ _ _ 11 [some (.ref 146), some (.int a2)] [.int 0] s
        refine q_iret ja_M_isBill_11 rfl (by decide) ?_
        show q_W _ _ _ _ 13 [some (.ref 146), some (.int a1), some (.int a2)] [.int 0] s
        refine q_if_eq (pc' := 16) ja_M_confer_13 rfl (fun _ => ?_) (fun h => absurd ((by decide : (0 : Int32) = 0)) h)
        refine q_bipush (pc' := 23) ja_M_confer_21 rfl (-2) (by decide) ?_
        exact q_iret ja_M_confer_23 rfl rfl (k3 h2 h4 h5)
      · intro h6
        refine q_iload_n (pc' := 6) ja_M_in_5 rfl rfl ?_
        refine q_iload_n (pc' := 7) ja_M_in_6 rfl rfl ?_
        refine q_ic_gt (pc' := 10) ja_M_in_7 rfl ?_ ?_
        · intro h7
          refine q_iconst (pc' := 15) ja_M_in_14 rfl 0 (by decide) ?_
          refine q_iret ja_M_in_15 rfl (by decide) ?_
          show q_W _ _ _ _ 11 [some (.ref 146), some (.int a2)] [.int 0] s
          refine q_iret ja_M_isBill_11 rfl (by decide) ?_
          show q_W _ _ _ _ 13 [some (.ref 146), some (.int a1), some (.int a2)] [.int 0] s
          refine q_if_eq (pc' := 16) ja_M_confer_13 rfl (fun _ => ?_) (fun h => absurd ((by decide : (0 : Int32) = 0)) h)
          refine q_bipush (pc' := 23) ja_M_confer_21 rfl (-2) (by decide) ?_
          exact q_iret ja_M_confer_23 rfl rfl (k4 h2 h4 h6 h7)
        · intro h8
          refine q_iconst (pc' := 11) ja_M_in_10 rfl 1 (by decide) ?_
          refine q_goto ja_M_in_11 ?_
          refine q_iret ja_M_in_15 rfl (by decide) ?_
          show q_W _ _ _ _ 11 [some (.ref 146), some (.int a2)] [.int 1] s
          refine q_iret ja_M_isBill_11 rfl (by decide) ?_
          show q_W _ _ _ _ 13 [some (.ref 146), some (.int a1), some (.int a2)] [.int 1] s
          refine q_if_eq (pc' := 16) ja_M_confer_13 rfl (fun h => absurd h ((by decide : ¬ (1 : Int32) = 0))) (fun _ => ?_)
          refine q_iload_n (pc' := 17) ja_M_confer_16 rfl rfl ?_
          refine q_iload_n (pc' := 18) ja_M_confer_17 rfl rfl ?_
          refine q_ic_ne (pc' := 21) ja_M_confer_18 rfl ?_ ?_
          · intro h9
            refine q_aload_n (pc' := 25) ja_M_confer_24 rfl rfl ?_
            refine q_iload_n (pc' := 26) ja_M_confer_25 rfl rfl ?_
            refine q_iload_n (pc' := 27) ja_M_confer_26 rfl rfl ?_
            refine q_virt (pc' := 30) (c := 146) (as := [.int a1, .int a2]) (r := []) ja_M_confer_27 rfl rfl rfl (by decide) ⟨rfl, by decide⟩ ?_
            exact (k5 h2 h4 h6 h8 h9)
          · intro h10
            refine q_bipush (pc' := 23) ja_M_confer_21 rfl (-2) (by decide) ?_
            exact q_iret ja_M_confer_23 rfl rfl (k6 h2 h4 h6 h8 h10)
set_option maxRecDepth 20000 in
theorem t_M_confer_30 {G : jv_X} {d : Nat} {B : Option Value → jg_H → Prop} {s : jg_H} (x1 : Int32) (x2 : Int32)
    (k1 : B (some (.int (s 175 0))) s) :
    q_W G (d + 2) jm_M_confer B 30 [some (.ref 146), some (.int x1), some (.int x2)] [] s := by
  refine q_aload_n (pc' := 31) ja_M_confer_30 rfl rfl ?_
  refine q_getf (pc' := 34) (v := .ref 175) ja_M_confer_31 rfl (by decide) ⟨rfl, by decide⟩ rfl ?_
  refine q_iconst (pc' := 35) ja_M_confer_34 rfl 0 (by decide) ?_
  refine q_iald (pc' := 36) (v := .int (s 175 0)) ja_M_confer_35 rfl (by decide) (l := 121) rfl (by decide) rfl ?_
  exact q_iret ja_M_confer_36 rfl rfl k1
set_option maxRecDepth 20000 in
theorem t_M_conferred {G : jv_X} {d : Nat} {B : Option Value → jg_H → Prop} {s : jg_H} (a1 : Int32) (a2 : Int32) (a3 : Int32)
    (k1 : a1 < 0 → B (some (.int (-2))) s)
    (k2 : ¬ a1 < 0 → ¬ a1 ≤ ((s 146 6) - 1) → B (some (.int (-2))) s)
    (k3 : ¬ a1 < 0 → a1 ≤ ((s 146 6) - 1) → a2 < 0 → B (some (.int (-2))) s)
    (k4 : ¬ a1 < 0 → a1 ≤ ((s 146 6) - 1) → ¬ a2 < 0 → ¬ a2 ≤ ((s 146 6) - 1) → B (some (.int (-2))) s)
    (k5 : ¬ a1 < 0 → a1 ≤ ((s 146 6) - 1) → ¬ a2 < 0 → a2 ≤ ((s 146 6) - 1) → ¬ a1 = a2 → q_P G (d + 2) 211 [.ref 146, .int a1, .int a2] s (fun v t => q_W G (d + 2) jm_M_conferred B 30 [some (.ref 146), some (.int a1), some (.int a2), some (.int a3), none, none, none, none, none, none, none, none, none] (v.toList ++ []) t))
    (k6 : ¬ a1 < 0 → a1 ≤ ((s 146 6) - 1) → ¬ a2 < 0 → a2 ≤ ((s 146 6) - 1) → a1 = a2 → B (some (.int (-2))) s) :
    q_P G (d + 3) 212 [.ref 146, .int a1, .int a2, .int a3] s B := by
  refine q_in (M := jm_M_conferred) rfl (Nat.le_of_ble_eq_true rfl) (ls := [some (.ref 146), some (.int a1), some (.int a2), some (.int a3), none, none, none, none, none, none, none, none, none]) rfl ?_
  refine q_aload_n (pc' := 1) ja_M_conferred_0 rfl rfl ?_
  refine q_iload_n (pc' := 2) ja_M_conferred_1 rfl rfl ?_
  refine q_virt (pc' := 5) (c := 146) (as := [.int a1]) (r := []) ja_M_conferred_2 rfl rfl rfl (by decide) ⟨rfl, by decide⟩ ?_
  refine q_in (M := jm_M_isBill) rfl (Nat.le_of_ble_eq_true rfl) (ls := [some (.ref 146), some (.int a1)]) rfl ?_
  refine q_iload_n (pc' := 1) ja_M_isBill_0 rfl rfl ?_
  refine q_iconst (pc' := 2) ja_M_isBill_1 rfl 0 (by decide) ?_
  refine q_aload_n (pc' := 3) ja_M_isBill_2 rfl rfl ?_
  refine q_getf (pc' := 6) (v := .int (s 146 6)) ja_M_isBill_3 rfl (by decide) ⟨rfl, by decide⟩ rfl ?_
  refine q_iconst (pc' := 7) ja_M_isBill_6 rfl 1 (by decide) ?_
  refine q_isub (pc' := 8) ja_M_isBill_7 rfl ?_
  refine q_stat (pc' := 11) (as := [.int a1, .int 0, .int ((s 146 6) - 1)]) (r := []) ja_M_isBill_8 rfl (by decide) rfl rfl ?_
  refine q_in (M := jm_M_in) rfl (Nat.le_of_ble_eq_true rfl) (ls := [some (.int a1), some (.int 0), some (.int ((s 146 6) - 1))]) rfl ?_
  refine q_iload_n (pc' := 1) ja_M_in_0 rfl rfl ?_
  refine q_iload_n (pc' := 2) ja_M_in_1 rfl rfl ?_
  refine q_ic_lt (pc' := 5) ja_M_in_2 rfl ?_ ?_
  · intro h1
    refine q_iconst (pc' := 15) ja_M_in_14 rfl 0 (by decide) ?_
    refine q_iret ja_M_in_15 rfl (by decide) ?_
    show q_W _ _ _ _ 11 [some (.ref 146), some (.int a1)] [.int 0] s
    refine q_iret ja_M_isBill_11 rfl (by decide) ?_
    show q_W _ _ _ _ 5 [some (.ref 146), some (.int a1), some (.int a2), some (.int a3), none, none, none, none, none, none, none, none, none] [.int 0] s
    refine q_if_eq (pc' := 8) ja_M_conferred_5 rfl (fun _ => ?_) (fun h => absurd ((by decide : (0 : Int32) = 0)) h)
    refine q_bipush (pc' := 23) ja_M_conferred_21 rfl (-2) (by decide) ?_
    exact q_iret ja_M_conferred_23 rfl rfl (k1 h1)
  · intro h2
    refine q_iload_n (pc' := 6) ja_M_in_5 rfl rfl ?_
    refine q_iload_n (pc' := 7) ja_M_in_6 rfl rfl ?_
    refine q_ic_gt (pc' := 10) ja_M_in_7 rfl ?_ ?_
    · intro h3
      refine q_iconst (pc' := 15) ja_M_in_14 rfl 0 (by decide) ?_
      refine q_iret ja_M_in_15 rfl (by decide) ?_
      show q_W _ _ _ _ 11 [some (.ref 146), some (.int a1)] [.int 0] s
      refine q_iret ja_M_isBill_11 rfl (by decide) ?_
      show q_W _ _ _ _ 5 [some (.ref 146), some (.int a1), some (.int a2), some (.int a3), none, none, none, none, none, none, none, none, none] [.int 0] s
      refine q_if_eq (pc' := 8) ja_M_conferred_5 rfl (fun _ => ?_) (fun h => absurd ((by decide : (0 : Int32) = 0)) h)
      refine q_bipush (pc' := 23) ja_M_conferred_21 rfl (-2) (by decide) ?_
      exact q_iret ja_M_conferred_23 rfl rfl (k2 h2 h3)
    · intro h4
      refine q_iconst (pc' := 11) ja_M_in_10 rfl 1 (by decide) ?_
      refine q_goto ja_M_in_11 ?_
      refine q_iret ja_M_in_15 rfl (by decide) ?_
      show q_W _ _ _ _ 11 [some (.ref 146), some (.int a1)] [.int 1] s
      refine q_iret ja_M_isBill_11 rfl (by decide) ?_
      show q_W _ _ _ _ 5 [some (.ref 146), some (.int a1), some (.int a2), some (.int a3), none, none, none, none, none, none, none, none, none] [.int 1] s
      refine q_if_eq (pc' := 8) ja_M_conferred_5 rfl (fun h => absurd h ((by decide : ¬ (1 : Int32) = 0))) (fun _ => ?_)
      refine q_aload_n (pc' := 9) ja_M_conferred_8 rfl rfl ?_
      refine q_iload_n (pc' := 10) ja_M_conferred_9 rfl rfl ?_
      refine q_virt (pc' := 13) (c := 146) (as := [.int a2]) (r := []) ja_M_conferred_10 rfl rfl rfl (by decide) ⟨rfl, by decide⟩ ?_
      refine q_in (M := jm_M_isBill) rfl (Nat.le_of_ble_eq_true rfl) (ls := [some (.ref 146), some (.int a2)]) rfl ?_
      refine q_iload_n (pc' := 1) ja_M_isBill_0 rfl rfl ?_
      refine q_iconst (pc' := 2) ja_M_isBill_1 rfl 0 (by decide) ?_
      refine q_aload_n (pc' := 3) ja_M_isBill_2 rfl rfl ?_
      refine q_getf (pc' := 6) (v := .int (s 146 6)) ja_M_isBill_3 rfl (by decide) ⟨rfl, by decide⟩ rfl ?_
      refine q_iconst (pc' := 7) ja_M_isBill_6 rfl 1 (by decide) ?_
      refine q_isub (pc' := 8) ja_M_isBill_7 rfl ?_
      refine q_stat (pc' := 11) (as := [.int a2, .int 0, .int ((s 146 6) - 1)]) (r := []) ja_M_isBill_8 rfl (by decide) rfl rfl ?_
      refine q_in (M := jm_M_in) rfl (Nat.le_of_ble_eq_true rfl) (ls := [some (.int a2), some (.int 0), some (.int ((s 146 6) - 1))]) rfl ?_
      refine q_iload_n (pc' := 1) ja_M_in_0 rfl rfl ?_
      refine q_iload_n (pc' := 2) ja_M_in_1 rfl rfl ?_
      refine q_ic_lt (pc' := 5) ja_M_in_2 rfl ?_ ?_
      · intro h5
        refine q_iconst (pc' := 15) ja_M_in_14 rfl 0 (by decide) ?_
        refine q_iret ja_M_in_15 rfl (by decide) ?_
        show q_W _ _ _ _ 11 [some (.ref 146), some (.int a2)] [.int 0] s
        refine q_iret ja_M_isBill_11 rfl (by decide) ?_
        show q_W _ _ _ _ 13 [some (.ref 146), some (.int a1), some (.int a2), some (.int a3), none, none, none, none, none, none, none, none, none] [.int 0] s
        refine q_if_eq (pc' := 16) ja_M_conferred_13 rfl (fun _ => ?_) (fun h => absurd ((by decide : (0 : Int32) = 0)) h)
        refine q_bipush (pc' := 23) ja_M_conferred_21 rfl (-2) (by decide) ?_
        exact q_iret ja_M_conferred_23 rfl rfl (k3 h2 h4 h5)
      · intro h6
        refine q_iload_n (pc' := 6) ja_M_in_5 rfl rfl ?_
        refine q_iload_n (pc' := 7) ja_M_in_6 rfl rfl ?_
        refine q_ic_gt (pc' := 10) ja_M_in_7 rfl ?_ ?_
        · intro h7
          refine q_iconst (pc' := 15) ja_M_in_14 rfl 0 (by decide) ?_
          refine q_iret ja_M_in_15 rfl (by decide) ?_
          show q_W _ _ _ _ 11 [some (.ref 146), some (.int a2)] [.int 0] s
          refine q_iret ja_M_isBill_11 rfl (by decide) ?_
          show q_W _ _ _ _ 13 [some (.ref 146), some (.int a1), some (.int a2), some (.int a3), none, none, none, none, none, none, none, none, none] [.int 0] s
          refine q_if_eq (pc' := 16) ja_M_conferred_13 rfl (fun _ => ?_) (fun h => absurd ((by decide : (0 : Int32) = 0)) h)
          refine q_bipush (pc' := 23) ja_M_conferred_21 rfl (-2) (by decide) ?_
          exact q_iret ja_M_conferred_23 rfl rfl (k4 h2 h4 h6 h7)
        · intro h8
          refine q_iconst (pc' := 11) ja_M_in_10 rfl 1 (by decide) ?_
          refine q_goto ja_M_in_11 ?_
          refine q_iret ja_M_in_15 rfl (by decide) ?_
          show q_W _ _ _ _ 11 [some (.ref 146), some (.int a2)] [.int 1] s
          refine q_iret ja_M_isBill_11 rfl (by decide) ?_
          show q_W _ _ _ _ 13 [some (.ref 146), some (.int a1), some (.int a2), some (.int a3), none, none, none, none, none, none, none, none, none] [.int 1] s
          refine q_if_eq (pc' := 16) ja_M_conferred_13 rfl (fun h => absurd h ((by decide : ¬ (1 : Int32) = 0))) (fun _ => ?_)
          refine q_iload_n (pc' := 17) ja_M_conferred_16 rfl rfl ?_
          refine q_iload_n (pc' := 18) ja_M_conferred_17 rfl rfl ?_
          refine q_ic_ne (pc' := 21) ja_M_conferred_18 rfl ?_ ?_
          · intro h9
            refine q_aload_n (pc' := 25) ja_M_conferred_24 rfl rfl ?_
            refine q_iload_n (pc' := 26) ja_M_conferred_25 rfl rfl ?_
            refine q_iload_n (pc' := 27) ja_M_conferred_26 rfl rfl ?_
            refine q_virt (pc' := 30) (c := 146) (as := [.int a1, .int a2]) (r := []) ja_M_conferred_27 rfl rfl rfl (by decide) ⟨rfl, by decide⟩ ?_
            exact (k5 h2 h4 h6 h8 h9)
          · intro h10
            refine q_bipush (pc' := 23) ja_M_conferred_21 rfl (-2) (by decide) ?_
            exact q_iret ja_M_conferred_23 rfl rfl (k6 h2 h4 h6 h8 h10)
set_option maxRecDepth 20000 in
theorem t_M_conferred_30 {G : jv_X} {d : Nat} {B : Option Value → jg_H → Prop} {s : jg_H} (x1 : Int32) (x2 : Int32) (x3 : Int32)
    (k1 : x3 < 0 → B (some (.int (-1))) s)
    (k2 : ¬ x3 < 0 → ¬ x3 ≤ ((s 175 0) - 1) → B (some (.int (-1))) s)
    (k3 : ¬ x3 < 0 → x3 ≤ ((s 175 0) - 1) → q_W G (d + 2) jm_M_conferred B 60 [some (.ref 146), some (.int x1), some (.int x2), some (.int x3), some (.int 0), some (.int 0), some (.int 0), some (.int 0), none, none, none, none, none] [] s) :
    q_W G (d + 2) jm_M_conferred B 30 [some (.ref 146), some (.int x1), some (.int x2), some (.int x3), none, none, none, none, none, none, none, none, none] [] s := by
  refine q_iload_n (pc' := 31) ja_M_conferred_30 rfl rfl ?_
  refine q_iconst (pc' := 32) ja_M_conferred_31 rfl 0 (by decide) ?_
  refine q_aload_n (pc' := 33) ja_M_conferred_32 rfl rfl ?_
  refine q_getf (pc' := 36) (v := .ref 175) ja_M_conferred_33 rfl (by decide) ⟨rfl, by decide⟩ rfl ?_
  refine q_iconst (pc' := 37) ja_M_conferred_36 rfl 0 (by decide) ?_
  refine q_iald (pc' := 38) (v := .int (s 175 0)) ja_M_conferred_37 rfl (by decide) (l := 121) rfl (by decide) rfl ?_
  refine q_iconst (pc' := 39) ja_M_conferred_38 rfl 1 (by decide) ?_
  refine q_isub (pc' := 40) ja_M_conferred_39 rfl ?_
  refine q_stat (pc' := 43) (as := [.int x3, .int 0, .int ((s 175 0) - 1)]) (r := []) ja_M_conferred_40 rfl (by decide) rfl rfl ?_
  refine q_in (M := jm_M_in) rfl (Nat.le_of_ble_eq_true rfl) (ls := [some (.int x3), some (.int 0), some (.int ((s 175 0) - 1))]) rfl ?_
  refine q_iload_n (pc' := 1) ja_M_in_0 rfl rfl ?_
  refine q_iload_n (pc' := 2) ja_M_in_1 rfl rfl ?_
  refine q_ic_lt (pc' := 5) ja_M_in_2 rfl ?_ ?_
  · intro h1
    refine q_iconst (pc' := 15) ja_M_in_14 rfl 0 (by decide) ?_
    refine q_iret ja_M_in_15 rfl (by decide) ?_
    show q_W _ _ _ _ 43 [some (.ref 146), some (.int x1), some (.int x2), some (.int x3), none, none, none, none, none, none, none, none, none] [.int 0] s
    refine q_if_ne (pc' := 46) ja_M_conferred_43 rfl (fun h => absurd ((by decide : (0 : Int32) = 0)) h) (fun _ => ?_)
    refine q_iconst (pc' := 47) ja_M_conferred_46 rfl (-1) (by decide) ?_
    exact q_iret ja_M_conferred_47 rfl rfl (k1 h1)
  · intro h2
    refine q_iload_n (pc' := 6) ja_M_in_5 rfl rfl ?_
    refine q_iload_n (pc' := 7) ja_M_in_6 rfl rfl ?_
    refine q_ic_gt (pc' := 10) ja_M_in_7 rfl ?_ ?_
    · intro h3
      refine q_iconst (pc' := 15) ja_M_in_14 rfl 0 (by decide) ?_
      refine q_iret ja_M_in_15 rfl (by decide) ?_
      show q_W _ _ _ _ 43 [some (.ref 146), some (.int x1), some (.int x2), some (.int x3), none, none, none, none, none, none, none, none, none] [.int 0] s
      refine q_if_ne (pc' := 46) ja_M_conferred_43 rfl (fun h => absurd ((by decide : (0 : Int32) = 0)) h) (fun _ => ?_)
      refine q_iconst (pc' := 47) ja_M_conferred_46 rfl (-1) (by decide) ?_
      exact q_iret ja_M_conferred_47 rfl rfl (k2 h2 h3)
    · intro h4
      refine q_iconst (pc' := 11) ja_M_in_10 rfl 1 (by decide) ?_
      refine q_goto ja_M_in_11 ?_
      refine q_iret ja_M_in_15 rfl (by decide) ?_
      show q_W _ _ _ _ 43 [some (.ref 146), some (.int x1), some (.int x2), some (.int x3), none, none, none, none, none, none, none, none, none] [.int 1] s
      refine q_if_ne (pc' := 46) ja_M_conferred_43 rfl (fun _ => ?_) (fun h => absurd h ((by decide : ¬ (1 : Int32) = 0)))
      refine q_iconst (pc' := 49) ja_M_conferred_48 rfl 0 (by decide) ?_
      refine q_istore (pc' := 51) (ls' := [some (.ref 146), some (.int x1), some (.int x2), some (.int x3), some (.int 0), none, none, none, none, none, none, none, none]) ja_M_conferred_49 rfl ⟨Nat.le_of_ble_eq_true rfl, rfl⟩ rfl ?_
      refine q_iconst (pc' := 52) ja_M_conferred_51 rfl 0 (by decide) ?_
      refine q_istore (pc' := 54) (ls' := [some (.ref 146), some (.int x1), some (.int x2), some (.int x3), some (.int 0), some (.int 0), none, none, none, none, none, none, none]) ja_M_conferred_52 rfl ⟨Nat.le_of_ble_eq_true rfl, rfl⟩ rfl ?_
      refine q_iconst (pc' := 55) ja_M_conferred_54 rfl 0 (by decide) ?_
      refine q_istore (pc' := 57) (ls' := [some (.ref 146), some (.int x1), some (.int x2), some (.int x3), some (.int 0), some (.int 0), some (.int 0), none, none, none, none, none, none]) ja_M_conferred_55 rfl ⟨Nat.le_of_ble_eq_true rfl, rfl⟩ rfl ?_
      refine q_iconst (pc' := 58) ja_M_conferred_57 rfl 0 (by decide) ?_
      refine q_istore (pc' := 60) (ls' := [some (.ref 146), some (.int x1), some (.int x2), some (.int x3), some (.int 0), some (.int 0), some (.int 0), some (.int 0), none, none, none, none, none]) ja_M_conferred_58 rfl ⟨Nat.le_of_ble_eq_true rfl, rfl⟩ rfl ?_
      exact (k3 h2 h4)
set_option maxRecDepth 20000 in
theorem t_M_conferred_60 {G : jv_X} {d : Nat} {B : Option Value → jg_H → Prop} {s : jg_H} (x1 : Int32) (x2 : Int32) (x3 : Int32) (x4 : Int32) (x5 : Int32) (x6 : Int32) (x7 : Int32) {o8 : Option Value} (ho8 : f_n o8 = true) {o9 : Option Value} (ho9 : f_n o9 = true) {o10 : Option Value} (ho10 : f_n o10 = true) {o11 : Option Value} (ho11 : f_n o11 = true) {o12 : Option Value} (ho12 : f_n o12 = true)
    (k1 : ¬ x7 ≤ x3 → B (some (.int x6)) s)
    (k2 : x7 ≤ x3 → jv_in ((11 * x4) + x5) 121 = true)
    (k3 : x7 ≤ x3 → q_W G (d + 2) jm_M_conferred B 87 [some (.ref 146), some (.int x1), some (.int x2), some (.int x3), some (.int x4), some (.int x5), some (.int x6), some (.int x7), some (.int (s 175 ((11 * x4) + x5).toNatClampNeg)), some (.int 0), some (.int 1), o11, o12] [] s) :
    q_W G (d + 2) jm_M_conferred B 60 [some (.ref 146), some (.int x1), some (.int x2), some (.int x3), some (.int x4), some (.int x5), some (.int x6), some (.int x7), o8, o9, o10, o11, o12] [] s := by
  refine q_iload (pc' := 62) ja_M_conferred_60 rfl rfl ?_
  refine q_iload_n (pc' := 63) ja_M_conferred_62 rfl rfl ?_
  refine q_ic_gt (pc' := 66) ja_M_conferred_63 rfl ?_ ?_
  · intro h1
    refine q_iload (pc' := 218) ja_M_conferred_216 rfl rfl ?_
    exact q_iret ja_M_conferred_218 rfl rfl (k1 h1)
  · intro h2
    refine q_aload_n (pc' := 67) ja_M_conferred_66 rfl rfl ?_
    refine q_getf (pc' := 70) (v := .ref 175) ja_M_conferred_67 rfl (by decide) ⟨rfl, by decide⟩ rfl ?_
    refine q_bipush (pc' := 72) ja_M_conferred_70 rfl 11 (by decide) ?_
    refine q_iload (pc' := 74) ja_M_conferred_72 rfl rfl ?_
    refine q_imul (pc' := 75) ja_M_conferred_74 rfl ?_
    refine q_iload (pc' := 77) ja_M_conferred_75 rfl rfl ?_
    refine q_iadd (pc' := 78) ja_M_conferred_77 rfl ?_
    refine q_iald (pc' := 79) (v := .int (s 175 ((11 * x4) + x5).toNatClampNeg)) ja_M_conferred_78 rfl (by decide) (l := 121) rfl (k2 h2) rfl ?_
    refine q_istore (pc' := 81) (ls' := [some (.ref 146), some (.int x1), some (.int x2), some (.int x3), some (.int x4), some (.int x5), some (.int x6), some (.int x7), some (.int (s 175 ((11 * x4) + x5).toNatClampNeg)), o9, o10, o11, o12]) ja_M_conferred_79 rfl ⟨Nat.le_of_ble_eq_true rfl, rfl⟩ rfl ?_
    refine q_iconst (pc' := 82) ja_M_conferred_81 rfl 0 (by decide) ?_
    refine q_istore (pc' := 84) (ls' := [some (.ref 146), some (.int x1), some (.int x2), some (.int x3), some (.int x4), some (.int x5), some (.int x6), some (.int x7), some (.int (s 175 ((11 * x4) + x5).toNatClampNeg)), some (.int 0), o10, o11, o12]) ja_M_conferred_82 rfl ⟨Nat.le_of_ble_eq_true rfl, rfl⟩ rfl ?_
    refine q_iconst (pc' := 85) ja_M_conferred_84 rfl 1 (by decide) ?_
    refine q_istore (pc' := 87) (ls' := [some (.ref 146), some (.int x1), some (.int x2), some (.int x3), some (.int x4), some (.int x5), some (.int x6), some (.int x7), some (.int (s 175 ((11 * x4) + x5).toNatClampNeg)), some (.int 0), some (.int 1), o11, o12]) ja_M_conferred_85 rfl ⟨Nat.le_of_ble_eq_true rfl, rfl⟩ rfl ?_
    exact (k3 h2)
set_option maxRecDepth 20000 in
theorem t_M_conferred_87 {G : jv_X} {d : Nat} {B : Option Value → jg_H → Prop} {s : jg_H} (x1 : Int32) (x2 : Int32) (x3 : Int32) (x4 : Int32) (x5 : Int32) (x6 : Int32) (x7 : Int32) (x8 : Int32) (x9 : Int32) (x10 : Int32) {o11 : Option Value} (ho11 : f_n o11 = true) {o12 : Option Value} (ho12 : f_n o12 = true)
    (k1 : ¬ x10 ≤ 60 → q_P G (d + 2) 213 [.ref 146, .int x1, .int x4, .int x6] s (fun v t => q_W G (d + 2) jm_M_conferred B 193 [some (.ref 146), some (.int x1), some (.int x2), some (.int x3), some (.int x4), some (.int x5), some (.int x6), some (.int x7), some (.int x8), some (.int x9), some (.int x10), o11, o12] (v.toList ++ []) t))
    (k2 : x10 ≤ 60 → ¬ x9 = 0 → q_P G (d + 2) 213 [.ref 146, .int x1, .int x4, .int x6] s (fun v t => q_W G (d + 2) jm_M_conferred B 193 [some (.ref 146), some (.int x1), some (.int x2), some (.int x3), some (.int x4), some (.int x5), some (.int x6), some (.int x7), some (.int x8), some (.int x9), some (.int x10), o11, o12] (v.toList ++ []) t))
    (k3 : x10 ≤ 60 → x9 = 0 → q_P G (d + 2) 213 [.ref 146, .int x1, .int x4, .int x10] s (fun v t => q_W G (d + 2) jm_M_conferred B 108 [some (.ref 146), some (.int x1), some (.int x2), some (.int x3), some (.int x4), some (.int x5), some (.int x6), some (.int x7), some (.int x8), some (.int x9), some (.int x10), o11, o12] (v.toList ++ []) t)) :
    q_W G (d + 2) jm_M_conferred B 87 [some (.ref 146), some (.int x1), some (.int x2), some (.int x3), some (.int x4), some (.int x5), some (.int x6), some (.int x7), some (.int x8), some (.int x9), some (.int x10), o11, o12] [] s := by
  refine q_iload (pc' := 89) ja_M_conferred_87 rfl rfl ?_
  refine q_bipush (pc' := 91) ja_M_conferred_89 rfl 60 (by decide) ?_
  refine q_ic_gt (pc' := 94) ja_M_conferred_91 rfl ?_ ?_
  · intro h1
    refine q_aload_n (pc' := 185) ja_M_conferred_184 rfl rfl ?_
    refine q_iload_n (pc' := 186) ja_M_conferred_185 rfl rfl ?_
    refine q_iload (pc' := 188) ja_M_conferred_186 rfl rfl ?_
    refine q_iload (pc' := 190) ja_M_conferred_188 rfl rfl ?_
    refine q_virt (pc' := 193) (c := 146) (as := [.int x1, .int x4, .int x6]) (r := []) ja_M_conferred_190 rfl rfl rfl (by decide) ⟨rfl, by decide⟩ ?_
    exact (k1 h1)
  · intro h2
    refine q_iload (pc' := 96) ja_M_conferred_94 rfl rfl ?_
    refine q_if_ne (pc' := 99) ja_M_conferred_96 rfl ?_ ?_
    · intro h3
      refine q_aload_n (pc' := 185) ja_M_conferred_184 rfl rfl ?_
      refine q_iload_n (pc' := 186) ja_M_conferred_185 rfl rfl ?_
      refine q_iload (pc' := 188) ja_M_conferred_186 rfl rfl ?_
      refine q_iload (pc' := 190) ja_M_conferred_188 rfl rfl ?_
      refine q_virt (pc' := 193) (c := 146) (as := [.int x1, .int x4, .int x6]) (r := []) ja_M_conferred_190 rfl rfl rfl (by decide) ⟨rfl, by decide⟩ ?_
      exact (k2 h2 h3)
    · intro h4
      refine q_aload_n (pc' := 100) ja_M_conferred_99 rfl rfl ?_
      refine q_iload_n (pc' := 101) ja_M_conferred_100 rfl rfl ?_
      refine q_iload (pc' := 103) ja_M_conferred_101 rfl rfl ?_
      refine q_iload (pc' := 105) ja_M_conferred_103 rfl rfl ?_
      refine q_virt (pc' := 108) (c := 146) (as := [.int x1, .int x4, .int x10]) (r := []) ja_M_conferred_105 rfl rfl rfl (by decide) ⟨rfl, by decide⟩ ?_
      exact (k3 h2 h4)
set_option maxRecDepth 20000 in
theorem t_M_conferred_108 {G : jv_X} {d : Nat} {B : Option Value → jg_H → Prop} {s : jg_H} (x1 : Int32) (x2 : Int32) (x3 : Int32) (x4 : Int32) (x5 : Int32) (x6 : Int32) (x7 : Int32) (x8 : Int32) (x9 : Int32) (x10 : Int32) {o11 : Option Value} (ho11 : f_n o11 = true) {o12 : Option Value} (ho12 : f_n o12 = true) (y0 : Int32)
    (k1 : q_P G (d + 2) 213 [.ref 146, .int x2, .int x5, .int x10] s (fun v t => q_W G (d + 2) jm_M_conferred B 119 [some (.ref 146), some (.int x1), some (.int x2), some (.int x3), some (.int x4), some (.int x5), some (.int x6), some (.int x7), some (.int x8), some (.int x9), some (.int x10), some (.int y0), o12] (v.toList ++ []) t)) :
    q_W G (d + 2) jm_M_conferred B 108 [some (.ref 146), some (.int x1), some (.int x2), some (.int x3), some (.int x4), some (.int x5), some (.int x6), some (.int x7), some (.int x8), some (.int x9), some (.int x10), o11, o12] [.int y0] s := by
  refine q_istore (pc' := 110) (ls' := [some (.ref 146), some (.int x1), some (.int x2), some (.int x3), some (.int x4), some (.int x5), some (.int x6), some (.int x7), some (.int x8), some (.int x9), some (.int x10), some (.int y0), o12]) ja_M_conferred_108 rfl ⟨Nat.le_of_ble_eq_true rfl, rfl⟩ rfl ?_
  refine q_aload_n (pc' := 111) ja_M_conferred_110 rfl rfl ?_
  refine q_iload_n (pc' := 112) ja_M_conferred_111 rfl rfl ?_
  refine q_iload (pc' := 114) ja_M_conferred_112 rfl rfl ?_
  refine q_iload (pc' := 116) ja_M_conferred_114 rfl rfl ?_
  refine q_virt (pc' := 119) (c := 146) (as := [.int x2, .int x5, .int x10]) (r := []) ja_M_conferred_116 rfl rfl rfl (by decide) ⟨rfl, by decide⟩ ?_
  exact k1
set_option maxRecDepth 20000 in
theorem t_M_conferred_119 {G : jv_X} {d : Nat} {B : Option Value → jg_H → Prop} {s : jg_H} (x1 : Int32) (x2 : Int32) (x3 : Int32) (x4 : Int32) (x5 : Int32) (x6 : Int32) (x7 : Int32) (x8 : Int32) (x9 : Int32) (x10 : Int32) (x11 : Int32) {o12 : Option Value} (ho12 : f_n o12 = true) (y0 : Int32)
    (k1 : jv_in x1 8 = true)
    (k2 : ¬ x11 < (s 153 x1.toNatClampNeg) → q_W G (d + 2) jm_M_conferred B 87 [some (.ref 146), some (.int x1), some (.int x2), some (.int x3), some (.int x4), some (.int x5), some (.int x10), some (.int x7), some (.int x8), some (.int 0), some (.int (x10 + 1)), some (.int x11), some (.int y0)] [] s)
    (k3 : x11 < (s 153 x1.toNatClampNeg) → jv_in x2 8 = true)
    (k4 : x11 < (s 153 x1.toNatClampNeg) → ¬ y0 < (s 153 x2.toNatClampNeg) → q_W G (d + 2) jm_M_conferred B 87 [some (.ref 146), some (.int x1), some (.int x2), some (.int x3), some (.int x4), some (.int x5), some (.int x10), some (.int x7), some (.int x8), some (.int 0), some (.int (x10 + 1)), some (.int x11), some (.int y0)] [] s)
    (k5 : x11 < (s 153 x1.toNatClampNeg) → y0 < (s 153 x2.toNatClampNeg) → jv_in (((11 * (x11 + 1)) + y0) + 1) 121 = true)
    (k6 : x11 < (s 153 x1.toNatClampNeg) → y0 < (s 153 x2.toNatClampNeg) → ¬ (1 + (s 175 (((11 * (x11 + 1)) + y0) + 1).toNatClampNeg)) = x8 → q_W G (d + 2) jm_M_conferred B 87 [some (.ref 146), some (.int x1), some (.int x2), some (.int x3), some (.int x4), some (.int x5), some (.int x10), some (.int x7), some (.int x8), some (.int 0), some (.int (x10 + 1)), some (.int x11), some (.int y0)] [] s)
    (k7 : x11 < (s 153 x1.toNatClampNeg) → y0 < (s 153 x2.toNatClampNeg) → (1 + (s 175 (((11 * (x11 + 1)) + y0) + 1).toNatClampNeg)) = x8 → q_W G (d + 2) jm_M_conferred B 87 [some (.ref 146), some (.int x1), some (.int x2), some (.int x3), some (.int x4), some (.int x5), some (.int x10), some (.int x7), some (.int x8), some (.int 1), some (.int (x10 + 1)), some (.int x11), some (.int y0)] [] s) :
    q_W G (d + 2) jm_M_conferred B 119 [some (.ref 146), some (.int x1), some (.int x2), some (.int x3), some (.int x4), some (.int x5), some (.int x6), some (.int x7), some (.int x8), some (.int x9), some (.int x10), some (.int x11), o12] [.int y0] s := by
  refine q_istore (pc' := 121) (ls' := [some (.ref 146), some (.int x1), some (.int x2), some (.int x3), some (.int x4), some (.int x5), some (.int x6), some (.int x7), some (.int x8), some (.int x9), some (.int x10), some (.int x11), some (.int y0)]) ja_M_conferred_119 rfl ⟨Nat.le_of_ble_eq_true rfl, rfl⟩ rfl ?_
  refine q_iload (pc' := 123) ja_M_conferred_121 rfl rfl ?_
  refine q_aload_n (pc' := 124) ja_M_conferred_123 rfl rfl ?_
  refine q_getf (pc' := 127) (v := .ref 153) ja_M_conferred_124 rfl (by decide) ⟨rfl, by decide⟩ rfl ?_
  refine q_iload_n (pc' := 128) ja_M_conferred_127 rfl rfl ?_
  refine q_iald (pc' := 129) (v := .int (s 153 x1.toNatClampNeg)) ja_M_conferred_128 rfl (by decide) (l := 8) rfl k1 rfl ?_
  refine q_ic_ge (pc' := 132) ja_M_conferred_129 rfl ?_ ?_
  · intro h1
    refine q_iconst (pc' := 172) ja_M_conferred_171 rfl 0 (by decide) ?_
    refine q_istore (pc' := 174) (ls' := [some (.ref 146), some (.int x1), some (.int x2), some (.int x3), some (.int x4), some (.int x5), some (.int x6), some (.int x7), some (.int x8), some (.int 0), some (.int x10), some (.int x11), some (.int y0)]) ja_M_conferred_172 rfl ⟨Nat.le_of_ble_eq_true rfl, rfl⟩ rfl ?_
    refine q_iload (pc' := 176) ja_M_conferred_174 rfl rfl ?_
    refine q_istore (pc' := 178) (ls' := [some (.ref 146), some (.int x1), some (.int x2), some (.int x3), some (.int x4), some (.int x5), some (.int x10), some (.int x7), some (.int x8), some (.int 0), some (.int x10), some (.int x11), some (.int y0)]) ja_M_conferred_176 rfl ⟨Nat.le_of_ble_eq_true rfl, rfl⟩ rfl ?_
    refine q_iinc (pc' := 181) (ls' := [some (.ref 146), some (.int x1), some (.int x2), some (.int x3), some (.int x4), some (.int x5), some (.int x10), some (.int x7), some (.int x8), some (.int 0), some (.int (x10 + 1)), some (.int x11), some (.int y0)]) ja_M_conferred_178 rfl rfl (x10 + 1) rfl ⟨Nat.le_of_ble_eq_true rfl, rfl⟩ rfl ?_
    refine q_goto ja_M_conferred_181 ?_
    exact (k2 h1)
  · intro h2
    refine q_iload (pc' := 134) ja_M_conferred_132 rfl rfl ?_
    refine q_aload_n (pc' := 135) ja_M_conferred_134 rfl rfl ?_
    refine q_getf (pc' := 138) (v := .ref 153) ja_M_conferred_135 rfl (by decide) ⟨rfl, by decide⟩ rfl ?_
    refine q_iload_n (pc' := 139) ja_M_conferred_138 rfl rfl ?_
    refine q_iald (pc' := 140) (v := .int (s 153 x2.toNatClampNeg)) ja_M_conferred_139 rfl (by decide) (l := 8) rfl (k3 h2) rfl ?_
    refine q_ic_ge (pc' := 143) ja_M_conferred_140 rfl ?_ ?_
    · intro h3
      refine q_iconst (pc' := 172) ja_M_conferred_171 rfl 0 (by decide) ?_
      refine q_istore (pc' := 174) (ls' := [some (.ref 146), some (.int x1), some (.int x2), some (.int x3), some (.int x4), some (.int x5), some (.int x6), some (.int x7), some (.int x8), some (.int 0), some (.int x10), some (.int x11), some (.int y0)]) ja_M_conferred_172 rfl ⟨Nat.le_of_ble_eq_true rfl, rfl⟩ rfl ?_
      refine q_iload (pc' := 176) ja_M_conferred_174 rfl rfl ?_
      refine q_istore (pc' := 178) (ls' := [some (.ref 146), some (.int x1), some (.int x2), some (.int x3), some (.int x4), some (.int x5), some (.int x10), some (.int x7), some (.int x8), some (.int 0), some (.int x10), some (.int x11), some (.int y0)]) ja_M_conferred_176 rfl ⟨Nat.le_of_ble_eq_true rfl, rfl⟩ rfl ?_
      refine q_iinc (pc' := 181) (ls' := [some (.ref 146), some (.int x1), some (.int x2), some (.int x3), some (.int x4), some (.int x5), some (.int x10), some (.int x7), some (.int x8), some (.int 0), some (.int (x10 + 1)), some (.int x11), some (.int y0)]) ja_M_conferred_178 rfl rfl (x10 + 1) rfl ⟨Nat.le_of_ble_eq_true rfl, rfl⟩ rfl ?_
      refine q_goto ja_M_conferred_181 ?_
      exact (k4 h2 h3)
    · intro h4
      refine q_iconst (pc' := 144) ja_M_conferred_143 rfl 1 (by decide) ?_
      refine q_aload_n (pc' := 145) ja_M_conferred_144 rfl rfl ?_
      refine q_getf (pc' := 148) (v := .ref 175) ja_M_conferred_145 rfl (by decide) ⟨rfl, by decide⟩ rfl ?_
      refine q_bipush (pc' := 150) ja_M_conferred_148 rfl 11 (by decide) ?_
      refine q_iload (pc' := 152) ja_M_conferred_150 rfl rfl ?_
      refine q_iconst (pc' := 153) ja_M_conferred_152 rfl 1 (by decide) ?_
      refine q_iadd (pc' := 154) ja_M_conferred_153 rfl ?_
      refine q_imul (pc' := 155) ja_M_conferred_154 rfl ?_
      refine q_iload (pc' := 157) ja_M_conferred_155 rfl rfl ?_
      refine q_iadd (pc' := 158) ja_M_conferred_157 rfl ?_
      refine q_iconst (pc' := 159) ja_M_conferred_158 rfl 1 (by decide) ?_
      refine q_iadd (pc' := 160) ja_M_conferred_159 rfl ?_
      refine q_iald (pc' := 161) (v := .int (s 175 (((11 * (x11 + 1)) + y0) + 1).toNatClampNeg)) ja_M_conferred_160 rfl (by decide) (l := 121) rfl (k5 h2 h4) rfl ?_
      refine q_iadd (pc' := 162) ja_M_conferred_161 rfl ?_
      refine q_iload (pc' := 164) ja_M_conferred_162 rfl rfl ?_
      refine q_ic_ne (pc' := 167) ja_M_conferred_164 rfl ?_ ?_
      · intro h5
        refine q_iconst (pc' := 172) ja_M_conferred_171 rfl 0 (by decide) ?_
        refine q_istore (pc' := 174) (ls' := [some (.ref 146), some (.int x1), some (.int x2), some (.int x3), some (.int x4), some (.int x5), some (.int x6), some (.int x7), some (.int x8), some (.int 0), some (.int x10), some (.int x11), some (.int y0)]) ja_M_conferred_172 rfl ⟨Nat.le_of_ble_eq_true rfl, rfl⟩ rfl ?_
        refine q_iload (pc' := 176) ja_M_conferred_174 rfl rfl ?_
        refine q_istore (pc' := 178) (ls' := [some (.ref 146), some (.int x1), some (.int x2), some (.int x3), some (.int x4), some (.int x5), some (.int x10), some (.int x7), some (.int x8), some (.int 0), some (.int x10), some (.int x11), some (.int y0)]) ja_M_conferred_176 rfl ⟨Nat.le_of_ble_eq_true rfl, rfl⟩ rfl ?_
        refine q_iinc (pc' := 181) (ls' := [some (.ref 146), some (.int x1), some (.int x2), some (.int x3), some (.int x4), some (.int x5), some (.int x10), some (.int x7), some (.int x8), some (.int 0), some (.int (x10 + 1)), some (.int x11), some (.int y0)]) ja_M_conferred_178 rfl rfl (x10 + 1) rfl ⟨Nat.le_of_ble_eq_true rfl, rfl⟩ rfl ?_
        refine q_goto ja_M_conferred_181 ?_
        exact (k6 h2 h4 h5)
      · intro h6
        refine q_iconst (pc' := 168) ja_M_conferred_167 rfl 1 (by decide) ?_
        refine q_goto ja_M_conferred_168 ?_
        refine q_istore (pc' := 174) (ls' := [some (.ref 146), some (.int x1), some (.int x2), some (.int x3), some (.int x4), some (.int x5), some (.int x6), some (.int x7), some (.int x8), some (.int 1), some (.int x10), some (.int x11), some (.int y0)]) ja_M_conferred_172 rfl ⟨Nat.le_of_ble_eq_true rfl, rfl⟩ rfl ?_
        refine q_iload (pc' := 176) ja_M_conferred_174 rfl rfl ?_
        refine q_istore (pc' := 178) (ls' := [some (.ref 146), some (.int x1), some (.int x2), some (.int x3), some (.int x4), some (.int x5), some (.int x10), some (.int x7), some (.int x8), some (.int 1), some (.int x10), some (.int x11), some (.int y0)]) ja_M_conferred_176 rfl ⟨Nat.le_of_ble_eq_true rfl, rfl⟩ rfl ?_
        refine q_iinc (pc' := 181) (ls' := [some (.ref 146), some (.int x1), some (.int x2), some (.int x3), some (.int x4), some (.int x5), some (.int x10), some (.int x7), some (.int x8), some (.int 1), some (.int (x10 + 1)), some (.int x11), some (.int y0)]) ja_M_conferred_178 rfl rfl (x10 + 1) rfl ⟨Nat.le_of_ble_eq_true rfl, rfl⟩ rfl ?_
        refine q_goto ja_M_conferred_181 ?_
        exact (k7 h2 h4 h6)
set_option maxRecDepth 20000 in
theorem t_M_conferred_193 {G : jv_X} {d : Nat} {B : Option Value → jg_H → Prop} {s : jg_H} (x1 : Int32) (x2 : Int32) (x3 : Int32) (x4 : Int32) (x5 : Int32) (x6 : Int32) (x7 : Int32) (x8 : Int32) (x9 : Int32) (x10 : Int32) {o11 : Option Value} (ho11 : f_n o11 = true) {o12 : Option Value} (ho12 : f_n o12 = true) (y0 : Int32)
    (k1 : q_P G (d + 2) 213 [.ref 146, .int x2, .int x5, .int x6] s (fun v t => q_W G (d + 2) jm_M_conferred B 206 [some (.ref 146), some (.int x1), some (.int x2), some (.int x3), some (.int (y0 + 1)), some (.int x5), some (.int x6), some (.int x7), some (.int x8), some (.int x9), some (.int x10), o11, o12] (v.toList ++ []) t)) :
    q_W G (d + 2) jm_M_conferred B 193 [some (.ref 146), some (.int x1), some (.int x2), some (.int x3), some (.int x4), some (.int x5), some (.int x6), some (.int x7), some (.int x8), some (.int x9), some (.int x10), o11, o12] [.int y0] s := by
  refine q_iconst (pc' := 194) ja_M_conferred_193 rfl 1 (by decide) ?_
  refine q_iadd (pc' := 195) ja_M_conferred_194 rfl ?_
  refine q_istore (pc' := 197) (ls' := [some (.ref 146), some (.int x1), some (.int x2), some (.int x3), some (.int (y0 + 1)), some (.int x5), some (.int x6), some (.int x7), some (.int x8), some (.int x9), some (.int x10), o11, o12]) ja_M_conferred_195 rfl ⟨Nat.le_of_ble_eq_true rfl, rfl⟩ rfl ?_
  refine q_aload_n (pc' := 198) ja_M_conferred_197 rfl rfl ?_
  refine q_iload_n (pc' := 199) ja_M_conferred_198 rfl rfl ?_
  refine q_iload (pc' := 201) ja_M_conferred_199 rfl rfl ?_
  refine q_iload (pc' := 203) ja_M_conferred_201 rfl rfl ?_
  refine q_virt (pc' := 206) (c := 146) (as := [.int x2, .int x5, .int x6]) (r := []) ja_M_conferred_203 rfl rfl rfl (by decide) ⟨rfl, by decide⟩ ?_
  exact k1
set_option maxRecDepth 20000 in
theorem t_M_conferred_206 {G : jv_X} {d : Nat} {B : Option Value → jg_H → Prop} {s : jg_H} (x1 : Int32) (x2 : Int32) (x3 : Int32) (x4 : Int32) (x5 : Int32) (x6 : Int32) (x7 : Int32) (x8 : Int32) (x9 : Int32) (x10 : Int32) {o11 : Option Value} (ho11 : f_n o11 = true) {o12 : Option Value} (ho12 : f_n o12 = true) (y0 : Int32)
    (k1 : q_W G (d + 2) jm_M_conferred B 60 [some (.ref 146), some (.int x1), some (.int x2), some (.int x3), some (.int x4), some (.int (y0 + 1)), some (.int x6), some (.int (x7 + 1)), some (.int x8), some (.int x9), some (.int x10), o11, o12] [] s) :
    q_W G (d + 2) jm_M_conferred B 206 [some (.ref 146), some (.int x1), some (.int x2), some (.int x3), some (.int x4), some (.int x5), some (.int x6), some (.int x7), some (.int x8), some (.int x9), some (.int x10), o11, o12] [.int y0] s := by
  refine q_iconst (pc' := 207) ja_M_conferred_206 rfl 1 (by decide) ?_
  refine q_iadd (pc' := 208) ja_M_conferred_207 rfl ?_
  refine q_istore (pc' := 210) (ls' := [some (.ref 146), some (.int x1), some (.int x2), some (.int x3), some (.int x4), some (.int (y0 + 1)), some (.int x6), some (.int x7), some (.int x8), some (.int x9), some (.int x10), o11, o12]) ja_M_conferred_208 rfl ⟨Nat.le_of_ble_eq_true rfl, rfl⟩ rfl ?_
  refine q_iinc (pc' := 213) (ls' := [some (.ref 146), some (.int x1), some (.int x2), some (.int x3), some (.int x4), some (.int (y0 + 1)), some (.int x6), some (.int (x7 + 1)), some (.int x8), some (.int x9), some (.int x10), o11, o12]) ja_M_conferred_210 rfl rfl (x7 + 1) rfl ⟨Nat.le_of_ble_eq_true rfl, rfl⟩ rfl ?_
  refine q_goto ja_M_conferred_213 ?_
  exact k1
set_option maxRecDepth 20000 in
theorem t_M_count {G : jv_X} {d : Nat} {B : Option Value → jg_H → Prop} {s : jg_H} (a1 : Int32)
    (k1 : a1 = 0 → B (some (.int (s 146 0))) s)
    (k2 : ¬ a1 = 0 → a1 = 1 → q_P G d 180 [.ref 146] s (fun v t => q_W G d jm_M_count B 73 [some (.ref 146), some (.int a1)] (v.toList ++ []) t))
    (k3 : ¬ a1 = 0 → ¬ a1 = 1 → a1 = 2 → B (some (.int (s 146 6))) s)
    (k4 : ¬ a1 = 0 → ¬ a1 = 1 → ¬ a1 = 2 → a1 = 3 → B (some (.int (s 146 14))) s)
    (k5 : ¬ a1 = 0 → ¬ a1 = 1 → ¬ a1 = 2 → ¬ a1 = 3 → a1 = 4 → B (some (.int (s 146 18))) s)
    (k6 : ¬ a1 = 0 → ¬ a1 = 1 → ¬ a1 = 2 → ¬ a1 = 3 → ¬ a1 = 4 → a1 = 5 → B (some (.int (s 146 30))) s)
    (k7 : ¬ a1 = 0 → ¬ a1 = 1 → ¬ a1 = 2 → ¬ a1 = 3 → ¬ a1 = 4 → ¬ a1 = 5 → a1 = 6 → B (some (.int (s 146 16))) s)
    (k8 : ¬ a1 = 0 → ¬ a1 = 1 → ¬ a1 = 2 → ¬ a1 = 3 → ¬ a1 = 4 → ¬ a1 = 5 → ¬ a1 = 6 → a1 = 7 → B (some (.int (s 146 17))) s)
    (k9 : ¬ a1 = 0 → ¬ a1 = 1 → ¬ a1 = 2 → ¬ a1 = 3 → ¬ a1 = 4 → ¬ a1 = 5 → ¬ a1 = 6 → ¬ a1 = 7 → a1 = 8 → B (some (.int (s 146 13))) s)
    (k10 : ¬ a1 = 0 → ¬ a1 = 1 → ¬ a1 = 2 → ¬ a1 = 3 → ¬ a1 = 4 → ¬ a1 = 5 → ¬ a1 = 6 → ¬ a1 = 7 → ¬ a1 = 8 → a1 = 9 → B (some (.int (s 146 15))) s)
    (k11 : ¬ a1 = 0 → ¬ a1 = 1 → ¬ a1 = 2 → ¬ a1 = 3 → ¬ a1 = 4 → ¬ a1 = 5 → ¬ a1 = 6 → ¬ a1 = 7 → ¬ a1 = 8 → ¬ a1 = 9 → a1 = 10 → B (some (.int (s 146 19))) s)
    (k12 : ¬ a1 = 0 → ¬ a1 = 1 → ¬ a1 = 2 → ¬ a1 = 3 → ¬ a1 = 4 → ¬ a1 = 5 → ¬ a1 = 6 → ¬ a1 = 7 → ¬ a1 = 8 → ¬ a1 = 9 → ¬ a1 = 10 → a1 = 11 → B (some (.int (s 146 11))) s)
    (k13 : ¬ a1 = 0 → ¬ a1 = 1 → ¬ a1 = 2 → ¬ a1 = 3 → ¬ a1 = 4 → ¬ a1 = 5 → ¬ a1 = 6 → ¬ a1 = 7 → ¬ a1 = 8 → ¬ a1 = 9 → ¬ a1 = 10 → ¬ a1 = 11 → B (some (.int (-2))) s) :
    q_P G (d + 1) 214 [.ref 146, .int a1] s B := by
  refine q_in (M := jm_M_count) rfl (Nat.le_of_ble_eq_true rfl) (ls := [some (.ref 146), some (.int a1)]) rfl ?_
  refine q_iload_n (pc' := 1) ja_M_count_0 rfl rfl ?_
  by_cases h1 : a1 = 0
  · refine q_swE (pc' := 64) ja_M_count_1 (by rw [h1]; decide) (by rw [h1]; exact ⟨_, rfl, rfl⟩) ?_
    refine q_aload_n (pc' := 65) ja_M_count_64 rfl rfl ?_
    refine q_getf (pc' := 68) (v := .int (s 146 0)) ja_M_count_65 rfl (by decide) ⟨rfl, by decide⟩ rfl ?_
    exact q_iret ja_M_count_68 rfl rfl (k1 h1)
  by_cases h2 : a1 = 1
  · refine q_swE (pc' := 69) ja_M_count_1 (by rw [h2]; decide) (by rw [h2]; exact ⟨_, rfl, rfl⟩) ?_
    refine q_aload_n (pc' := 70) ja_M_count_69 rfl rfl ?_
    refine q_virt (pc' := 73) (c := 146) (as := []) (r := []) ja_M_count_70 rfl rfl rfl (by decide) ⟨rfl, by decide⟩ ?_
    exact (k2 h1 h2)
  by_cases h3 : a1 = 2
  · refine q_swE (pc' := 74) ja_M_count_1 (by rw [h3]; decide) (by rw [h3]; exact ⟨_, rfl, rfl⟩) ?_
    refine q_aload_n (pc' := 75) ja_M_count_74 rfl rfl ?_
    refine q_getf (pc' := 78) (v := .int (s 146 6)) ja_M_count_75 rfl (by decide) ⟨rfl, by decide⟩ rfl ?_
    exact q_iret ja_M_count_78 rfl rfl (k3 h1 h2 h3)
  by_cases h4 : a1 = 3
  · refine q_swE (pc' := 79) ja_M_count_1 (by rw [h4]; decide) (by rw [h4]; exact ⟨_, rfl, rfl⟩) ?_
    refine q_aload_n (pc' := 80) ja_M_count_79 rfl rfl ?_
    refine q_getf (pc' := 83) (v := .int (s 146 14)) ja_M_count_80 rfl (by decide) ⟨rfl, by decide⟩ rfl ?_
    exact q_iret ja_M_count_83 rfl rfl (k4 h1 h2 h3 h4)
  by_cases h5 : a1 = 4
  · refine q_swE (pc' := 84) ja_M_count_1 (by rw [h5]; decide) (by rw [h5]; exact ⟨_, rfl, rfl⟩) ?_
    refine q_aload_n (pc' := 85) ja_M_count_84 rfl rfl ?_
    refine q_getf (pc' := 88) (v := .int (s 146 18)) ja_M_count_85 rfl (by decide) ⟨rfl, by decide⟩ rfl ?_
    exact q_iret ja_M_count_88 rfl rfl (k5 h1 h2 h3 h4 h5)
  by_cases h6 : a1 = 5
  · refine q_swE (pc' := 89) ja_M_count_1 (by rw [h6]; decide) (by rw [h6]; exact ⟨_, rfl, rfl⟩) ?_
    refine q_aload_n (pc' := 90) ja_M_count_89 rfl rfl ?_
    refine q_getf (pc' := 93) (v := .int (s 146 30)) ja_M_count_90 rfl (by decide) ⟨rfl, by decide⟩ rfl ?_
    exact q_iret ja_M_count_93 rfl rfl (k6 h1 h2 h3 h4 h5 h6)
  by_cases h7 : a1 = 6
  · refine q_swE (pc' := 94) ja_M_count_1 (by rw [h7]; decide) (by rw [h7]; exact ⟨_, rfl, rfl⟩) ?_
    refine q_aload_n (pc' := 95) ja_M_count_94 rfl rfl ?_
    refine q_getf (pc' := 98) (v := .int (s 146 16)) ja_M_count_95 rfl (by decide) ⟨rfl, by decide⟩ rfl ?_
    exact q_iret ja_M_count_98 rfl rfl (k7 h1 h2 h3 h4 h5 h6 h7)
  by_cases h8 : a1 = 7
  · refine q_swE (pc' := 99) ja_M_count_1 (by rw [h8]; decide) (by rw [h8]; exact ⟨_, rfl, rfl⟩) ?_
    refine q_aload_n (pc' := 100) ja_M_count_99 rfl rfl ?_
    refine q_getf (pc' := 103) (v := .int (s 146 17)) ja_M_count_100 rfl (by decide) ⟨rfl, by decide⟩ rfl ?_
    exact q_iret ja_M_count_103 rfl rfl (k8 h1 h2 h3 h4 h5 h6 h7 h8)
  by_cases h9 : a1 = 8
  · refine q_swE (pc' := 104) ja_M_count_1 (by rw [h9]; decide) (by rw [h9]; exact ⟨_, rfl, rfl⟩) ?_
    refine q_aload_n (pc' := 105) ja_M_count_104 rfl rfl ?_
    refine q_getf (pc' := 108) (v := .int (s 146 13)) ja_M_count_105 rfl (by decide) ⟨rfl, by decide⟩ rfl ?_
    exact q_iret ja_M_count_108 rfl rfl (k9 h1 h2 h3 h4 h5 h6 h7 h8 h9)
  by_cases h10 : a1 = 9
  · refine q_swE (pc' := 109) ja_M_count_1 (by rw [h10]; decide) (by rw [h10]; exact ⟨_, rfl, rfl⟩) ?_
    refine q_aload_n (pc' := 110) ja_M_count_109 rfl rfl ?_
    refine q_getf (pc' := 113) (v := .int (s 146 15)) ja_M_count_110 rfl (by decide) ⟨rfl, by decide⟩ rfl ?_
    exact q_iret ja_M_count_113 rfl rfl (k10 h1 h2 h3 h4 h5 h6 h7 h8 h9 h10)
  by_cases h11 : a1 = 10
  · refine q_swE (pc' := 114) ja_M_count_1 (by rw [h11]; decide) (by rw [h11]; exact ⟨_, rfl, rfl⟩) ?_
    refine q_aload_n (pc' := 115) ja_M_count_114 rfl rfl ?_
    refine q_getf (pc' := 118) (v := .int (s 146 19)) ja_M_count_115 rfl (by decide) ⟨rfl, by decide⟩ rfl ?_
    exact q_iret ja_M_count_118 rfl rfl (k11 h1 h2 h3 h4 h5 h6 h7 h8 h9 h10 h11)
  by_cases h12 : a1 = 11
  · refine q_swE (pc' := 119) ja_M_count_1 (by rw [h12]; decide) (by rw [h12]; exact ⟨_, rfl, rfl⟩) ?_
    refine q_aload_n (pc' := 120) ja_M_count_119 rfl rfl ?_
    refine q_getf (pc' := 123) (v := .int (s 146 11)) ja_M_count_120 rfl (by decide) ⟨rfl, by decide⟩ rfl ?_
    exact q_iret ja_M_count_123 rfl rfl (k12 h1 h2 h3 h4 h5 h6 h7 h8 h9 h10 h11 h12)
  refine q_swD (pc' := 124) ja_M_count_1 [0, 1, 2, 3, 4, 5, 6, 7, 8, 9, 10, 11] (List.forall_mem_cons.mpr ⟨fun e => h1 (by rw [e]; decide), (List.forall_mem_cons.mpr ⟨fun e => h2 (by rw [e]; decide), (List.forall_mem_cons.mpr ⟨fun e => h3 (by rw [e]; decide), (List.forall_mem_cons.mpr ⟨fun e => h4 (by rw [e]; decide), (List.forall_mem_cons.mpr ⟨fun e => h5 (by rw [e]; decide), (List.forall_mem_cons.mpr ⟨fun e => h6 (by rw [e]; decide), (List.forall_mem_cons.mpr ⟨fun e => h7 (by rw [e]; decide), (List.forall_mem_cons.mpr ⟨fun e => h8 (by rw [e]; decide), (List.forall_mem_cons.mpr ⟨fun e => h9 (by rw [e]; decide), (List.forall_mem_cons.mpr ⟨fun e => h10 (by rw [e]; decide), (List.forall_mem_cons.mpr ⟨fun e => h11 (by rw [e]; decide), (List.forall_mem_cons.mpr ⟨fun e => h12 (by rw [e]; decide), (List.forall_mem_nil _)⟩)⟩)⟩)⟩)⟩)⟩)⟩)⟩)⟩)⟩)⟩)⟩) (by decide) rfl ?_
  refine q_bipush (pc' := 126) ja_M_count_124 rfl (-2) (by decide) ?_
  exact q_iret ja_M_count_126 rfl rfl (k13 h1 h2 h3 h4 h5 h6 h7 h8 h9 h10 h11 h12)
set_option maxRecDepth 20000 in
theorem t_M_count_73 {G : jv_X} {d : Nat} {B : Option Value → jg_H → Prop} {s : jg_H} (x1 : Int32) (y0 : Int32)
    (k1 : B (some (.int y0)) s) :
    q_W G d jm_M_count B 73 [some (.ref 146), some (.int x1)] [.int y0] s := by
  exact q_iret ja_M_count_73 rfl rfl k1
set_option maxRecDepth 20000 in
theorem t_M_counted {G : jv_X} {d : Nat} {B : Option Value → jg_H → Prop} {s : jg_H} (a1 : Int32) (a2 : Int32)
    (k1 : q_W G d jm_M_counted B 5 [some (.ref 146), some (.int a1), some (.int a2), some (.int 0), some (.int 0)] [] s) :
    q_P G (d + 1) 190 [.ref 146, .int a1, .int a2] s B := by
  refine q_in (M := jm_M_counted) rfl (Nat.le_of_ble_eq_true rfl) (ls := [some (.ref 146), some (.int a1), some (.int a2), none, none]) rfl ?_
  refine q_iconst (pc' := 1) ja_M_counted_0 rfl 0 (by decide) ?_
  refine q_istore_n (pc' := 2) (ls' := [some (.ref 146), some (.int a1), some (.int a2), some (.int 0), none]) ja_M_counted_1 rfl ⟨Nat.le_of_ble_eq_true rfl, rfl⟩ rfl ?_
  refine q_iconst (pc' := 3) ja_M_counted_2 rfl 0 (by decide) ?_
  refine q_istore (pc' := 5) (ls' := [some (.ref 146), some (.int a1), some (.int a2), some (.int 0), some (.int 0)]) ja_M_counted_3 rfl ⟨Nat.le_of_ble_eq_true rfl, rfl⟩ rfl ?_
  exact k1
set_option maxRecDepth 20000 in
theorem t_M_counted_5 {G : jv_X} {d : Nat} {B : Option Value → jg_H → Prop} {s : jg_H} (x1 : Int32) (x2 : Int32) (x3 : Int32) (x4 : Int32)
    (k1 : ¬ x4 < (s 146 0) → B (some (.int x3)) s)
    (k2 : x4 < (s 146 0) → q_P G d 191 [.ref 146, .int x1, .int x4] s (fun v t => q_W G d jm_M_counted B 22 [some (.ref 146), some (.int x1), some (.int x2), some (.int x3), some (.int x4)] (v.toList ++ [.int x3]) t)) :
    q_W G d jm_M_counted B 5 [some (.ref 146), some (.int x1), some (.int x2), some (.int x3), some (.int x4)] [] s := by
  refine q_iload (pc' := 7) ja_M_counted_5 rfl rfl ?_
  refine q_aload_n (pc' := 8) ja_M_counted_7 rfl rfl ?_
  refine q_getf (pc' := 11) (v := .int (s 146 0)) ja_M_counted_8 rfl (by decide) ⟨rfl, by decide⟩ rfl ?_
  refine q_ic_ge (pc' := 14) ja_M_counted_11 rfl ?_ ?_
  · intro h1
    refine q_iload_n (pc' := 40) ja_M_counted_39 rfl rfl ?_
    exact q_iret ja_M_counted_40 rfl rfl (k1 h1)
  · intro h2
    refine q_iload_n (pc' := 15) ja_M_counted_14 rfl rfl ?_
    refine q_aload_n (pc' := 16) ja_M_counted_15 rfl rfl ?_
    refine q_iload_n (pc' := 17) ja_M_counted_16 rfl rfl ?_
    refine q_iload (pc' := 19) ja_M_counted_17 rfl rfl ?_
    refine q_virt (pc' := 22) (c := 146) (as := [.int x1, .int x4]) (r := [.int x3]) ja_M_counted_19 rfl rfl rfl (by decide) ⟨rfl, by decide⟩ ?_
    exact (k2 h2)
set_option maxRecDepth 20000 in
theorem t_M_counted_22 {G : jv_X} {d : Nat} {B : Option Value → jg_H → Prop} {s : jg_H} (x1 : Int32) (x2 : Int32) (x3 : Int32) (x4 : Int32) (y0 : Int32) (y1 : Int32)
    (k1 : ¬ y1 = x2 → q_W G d jm_M_counted B 5 [some (.ref 146), some (.int x1), some (.int x2), some (.int (y0 + 0)), some (.int (x4 + 1))] [] s)
    (k2 : y1 = x2 → q_W G d jm_M_counted B 5 [some (.ref 146), some (.int x1), some (.int x2), some (.int (y0 + 1)), some (.int (x4 + 1))] [] s) :
    q_W G d jm_M_counted B 22 [some (.ref 146), some (.int x1), some (.int x2), some (.int x3), some (.int x4)] [.int y1, .int y0] s := by
  refine q_iload_n (pc' := 23) ja_M_counted_22 rfl rfl ?_
  refine q_ic_ne (pc' := 26) ja_M_counted_23 rfl ?_ ?_
  · intro h1
    refine q_iconst (pc' := 31) ja_M_counted_30 rfl 0 (by decide) ?_
    refine q_iadd (pc' := 32) ja_M_counted_31 rfl ?_
    refine q_istore_n (pc' := 33) (ls' := [some (.ref 146), some (.int x1), some (.int x2), some (.int (y0 + 0)), some (.int x4)]) ja_M_counted_32 rfl ⟨Nat.le_of_ble_eq_true rfl, rfl⟩ rfl ?_
    refine q_iinc (pc' := 36) (ls' := [some (.ref 146), some (.int x1), some (.int x2), some (.int (y0 + 0)), some (.int (x4 + 1))]) ja_M_counted_33 rfl rfl (x4 + 1) rfl ⟨Nat.le_of_ble_eq_true rfl, rfl⟩ rfl ?_
    refine q_goto ja_M_counted_36 ?_
    exact (k1 h1)
  · intro h2
    refine q_iconst (pc' := 27) ja_M_counted_26 rfl 1 (by decide) ?_
    refine q_goto ja_M_counted_27 ?_
    refine q_iadd (pc' := 32) ja_M_counted_31 rfl ?_
    refine q_istore_n (pc' := 33) (ls' := [some (.ref 146), some (.int x1), some (.int x2), some (.int (y0 + 1)), some (.int x4)]) ja_M_counted_32 rfl ⟨Nat.le_of_ble_eq_true rfl, rfl⟩ rfl ?_
    refine q_iinc (pc' := 36) (ls' := [some (.ref 146), some (.int x1), some (.int x2), some (.int (y0 + 1)), some (.int (x4 + 1))]) ja_M_counted_33 rfl rfl (x4 + 1) rfl ⟨Nat.le_of_ble_eq_true rfl, rfl⟩ rfl ?_
    refine q_goto ja_M_counted_36 ?_
    exact (k2 h2)
