/-! the machine that works a text out: walks with calls left standing -/
set_option maxRecDepth 20000 in
theorem t2_Machine_run {G : jv_X} {d : Nat} {B : Option Value → jg_H → Prop} {s : jg_H} {c1 : Nat} (hc1 : f_9 c1) (a2 : Int32)
    (k1 : a2 < 0 → B (some (.int 0)) s)
    (k2 : ¬ a2 < 0 → a2 < 4 → jv_in a2 5 = true)
    (k3 : ¬ a2 < 0 → a2 < 4 → q_W G d jm_Machine_run B 21 [some (.ref 119), some (.ref c1), some (.int a2), some (.int 0), some (.int (s (c1 + 2) a2.toNatClampNeg)), none] [] s)
    (k4 : ¬ a2 < 0 → ¬ a2 < 4 → B (some (.int 0)) s) :
    q_P G (d + 1) 78 [.ref 119, .ref c1, .int a2] s B := by
  refine q_in (M := jm_Machine_run) rfl (Nat.le_of_ble_eq_true rfl) (ls := [some (.ref 119), some (.ref c1), some (.int a2), none, none, none]) rfl ?_
  refine q_iload_n (pc' := 1) ja_Machine_run_0 rfl rfl ?_
  refine q_if_lt (pc' := 4) ja_Machine_run_1 rfl ?_ ?_
  · intro h1
    refine q_iconst (pc' := 10) ja_Machine_run_9 rfl 0 (by decide) ?_
    exact q_iret ja_Machine_run_10 rfl rfl (k1 h1)
  · intro h2
    refine q_iload_n (pc' := 5) ja_Machine_run_4 rfl rfl ?_
    refine q_iconst (pc' := 6) ja_Machine_run_5 rfl 4 (by decide) ?_
    refine q_ic_lt (pc' := 9) ja_Machine_run_6 rfl ?_ ?_
    · intro h3
      refine q_iconst (pc' := 12) ja_Machine_run_11 rfl 0 (by decide) ?_
      refine q_istore_n (pc' := 13) (ls' := [some (.ref 119), some (.ref c1), some (.int a2), some (.int 0), none, none]) ja_Machine_run_12 rfl ⟨Nat.le_of_ble_eq_true rfl, rfl⟩ rfl ?_
      refine q_aload_n (pc' := 14) ja_Machine_run_13 rfl rfl ?_
      refine q_getf (pc' := 17) (v := .ref (c1 + 2)) ja_Machine_run_14 rfl (f_9_c hc1) ⟨by rw [f_9_k hc1], by decide⟩ (f_9_g2 hc1) ?_
      refine q_iload_n (pc' := 18) ja_Machine_run_17 rfl rfl ?_
      refine q_iald (pc' := 19) (v := .int (s (c1 + 2) a2.toNatClampNeg)) ja_Machine_run_18 rfl (f_a_c (f_9_s2 hc1)) (l := 5) (f_a_k (f_9_s2 hc1)) (k2 h2 h3) (f_i (f_a_k (f_9_s2 hc1)) rfl) ?_
      refine q_istore (pc' := 21) (ls' := [some (.ref 119), some (.ref c1), some (.int a2), some (.int 0), some (.int (s (c1 + 2) a2.toNatClampNeg)), none]) ja_Machine_run_19 rfl ⟨Nat.le_of_ble_eq_true rfl, rfl⟩ rfl ?_
      exact (k3 h2 h3)
    · intro h4
      refine q_iconst (pc' := 10) ja_Machine_run_9 rfl 0 (by decide) ?_
      exact q_iret ja_Machine_run_10 rfl rfl (k4 h2 h4)
set_option maxRecDepth 20000 in
theorem t2_Machine_run_21 {G : jv_X} {d : Nat} {B : Option Value → jg_H → Prop} {s : jg_H} {x1 : Nat} (hx1 : f_9 x1) (x2 : Int32) (x3 : Int32) (x4 : Int32) {o5 : Option Value} (ho5 : f_n o5 = true)
    (k1 : jv_in (x2 + 1) 5 = true)
    (k2 : ¬ x4 < (s (x1 + 2) (x2 + 1).toNatClampNeg) → ¬ x3 < 1 → jv_in (x3 - 1) 200 = true)
    (k3 : ¬ x4 < (s (x1 + 2) (x2 + 1).toNatClampNeg) → ¬ x3 < 1 → B (some (.int (s 121 (x3 - 1).toNatClampNeg))) s)
    (k4 : ¬ x4 < (s (x1 + 2) (x2 + 1).toNatClampNeg) → x3 < 1 → B (some (.int 0)) s)
    (k5 : x4 < (s (x1 + 2) (x2 + 1).toNatClampNeg) → ¬ x4 < 200 → ¬ x3 < 1 → jv_in (x3 - 1) 200 = true)
    (k6 : x4 < (s (x1 + 2) (x2 + 1).toNatClampNeg) → ¬ x4 < 200 → ¬ x3 < 1 → B (some (.int (s 121 (x3 - 1).toNatClampNeg))) s)
    (k7 : x4 < (s (x1 + 2) (x2 + 1).toNatClampNeg) → ¬ x4 < 200 → x3 < 1 → B (some (.int 0)) s)
    (k8 : x4 < (s (x1 + 2) (x2 + 1).toNatClampNeg) → x4 < 200 → jv_in x4 200 = true)
    (k9 : x4 < (s (x1 + 2) (x2 + 1).toNatClampNeg) → x4 < 200 → (s (x1 + 1) x4.toNatClampNeg) < (-8) → (s (x1 + 1) x4.toNatClampNeg) = (-11) → ¬ x3 < 1 → ¬ (s (x1 + 1) x4.toNatClampNeg) = (-17) → jv_in (x3 - 1) 200 = true)
    (k10 : x4 < (s (x1 + 2) (x2 + 1).toNatClampNeg) → x4 < 200 → (s (x1 + 1) x4.toNatClampNeg) < (-8) → (s (x1 + 1) x4.toNatClampNeg) = (-11) → ¬ x3 < 1 → ¬ (s (x1 + 1) x4.toNatClampNeg) = (-17) → ¬ (s 121 (x3 - 1).toNatClampNeg) = 0 → jv_in (x3 - 1) 200 = true)
    (k11 : x4 < (s (x1 + 2) (x2 + 1).toNatClampNeg) → x4 < 200 → (s (x1 + 1) x4.toNatClampNeg) < (-8) → (s (x1 + 1) x4.toNatClampNeg) = (-11) → ¬ x3 < 1 → ¬ (s (x1 + 1) x4.toNatClampNeg) = (-17) → ¬ (s 121 (x3 - 1).toNatClampNeg) = 0 → ∀ s1 : jg_H, s1 = jg_up s 121 (x3 - 1).toNatClampNeg 0 → q_W G d jm_Machine_run B 21 [some (.ref 119), some (.ref x1), some (.int x2), some (.int x3), some (.int (x4 + 1)), some (.int (s (x1 + 1) x4.toNatClampNeg))] [] s1)
    (k12 : x4 < (s (x1 + 2) (x2 + 1).toNatClampNeg) → x4 < 200 → (s (x1 + 1) x4.toNatClampNeg) < (-8) → (s (x1 + 1) x4.toNatClampNeg) = (-11) → ¬ x3 < 1 → ¬ (s (x1 + 1) x4.toNatClampNeg) = (-17) → (s 121 (x3 - 1).toNatClampNeg) = 0 → jv_in (x3 - 1) 200 = true)
    (k13 : x4 < (s (x1 + 2) (x2 + 1).toNatClampNeg) → x4 < 200 → (s (x1 + 1) x4.toNatClampNeg) < (-8) → (s (x1 + 1) x4.toNatClampNeg) = (-11) → ¬ x3 < 1 → ¬ (s (x1 + 1) x4.toNatClampNeg) = (-17) → (s 121 (x3 - 1).toNatClampNeg) = 0 → ∀ s2 : jg_H, s2 = jg_up s 121 (x3 - 1).toNatClampNeg 1 → q_W G d jm_Machine_run B 21 [some (.ref 119), some (.ref x1), some (.int x2), some (.int x3), some (.int (x4 + 1)), some (.int (s (x1 + 1) x4.toNatClampNeg))] [] s2)
    (k14 : x4 < (s (x1 + 2) (x2 + 1).toNatClampNeg) → x4 < 200 → (s (x1 + 1) x4.toNatClampNeg) < (-8) → (s (x1 + 1) x4.toNatClampNeg) = (-11) → ¬ x3 < 1 → (s (x1 + 1) x4.toNatClampNeg) = (-17) → jv_in (x3 - 1) 200 = true)
    (k15 : x4 < (s (x1 + 2) (x2 + 1).toNatClampNeg) → x4 < 200 → (s (x1 + 1) x4.toNatClampNeg) < (-8) → (s (x1 + 1) x4.toNatClampNeg) = (-11) → ¬ x3 < 1 → (s (x1 + 1) x4.toNatClampNeg) = (-17) → jv_in (x3 - 1) 200 = true)
    (k16 : x4 < (s (x1 + 2) (x2 + 1).toNatClampNeg) → x4 < 200 → (s (x1 + 1) x4.toNatClampNeg) < (-8) → (s (x1 + 1) x4.toNatClampNeg) = (-11) → ¬ x3 < 1 → (s (x1 + 1) x4.toNatClampNeg) = (-17) → ∀ s3 : jg_H, s3 = jg_up s 121 (x3 - 1).toNatClampNeg (-(s 121 (x3 - 1).toNatClampNeg)) → q_W G d jm_Machine_run B 21 [some (.ref 119), some (.ref x1), some (.int x2), some (.int x3), some (.int (x4 + 1)), some (.int (s (x1 + 1) x4.toNatClampNeg))] [] s3)
    (k17 : x4 < (s (x1 + 2) (x2 + 1).toNatClampNeg) → x4 < 200 → (s (x1 + 1) x4.toNatClampNeg) < (-8) → (s (x1 + 1) x4.toNatClampNeg) = (-11) → x3 < 1 → B (some (.int 0)) s)
    (k18 : x4 < (s (x1 + 2) (x2 + 1).toNatClampNeg) → x4 < 200 → (s (x1 + 1) x4.toNatClampNeg) < (-8) → ¬ (s (x1 + 1) x4.toNatClampNeg) = (-11) → ¬ (s (x1 + 1) x4.toNatClampNeg) = (-17) → ¬ x3 < 2 → jv_in ((x3 + (-1)) - 1) 200 = true)
    (k19 : x4 < (s (x1 + 2) (x2 + 1).toNatClampNeg) → x4 < 200 → (s (x1 + 1) x4.toNatClampNeg) < (-8) → ¬ (s (x1 + 1) x4.toNatClampNeg) = (-11) → ¬ (s (x1 + 1) x4.toNatClampNeg) = (-17) → ¬ x3 < 2 → jv_in (x3 + (-1)) 200 = true)
    (k20 : x4 < (s (x1 + 2) (x2 + 1).toNatClampNeg) → x4 < 200 → (s (x1 + 1) x4.toNatClampNeg) < (-8) → ¬ (s (x1 + 1) x4.toNatClampNeg) = (-11) → ¬ (s (x1 + 1) x4.toNatClampNeg) = (-17) → ¬ x3 < 2 → q_P G d 79 [.int (s (x1 + 1) x4.toNatClampNeg), .int (s 121 ((x3 + (-1)) - 1).toNatClampNeg), .int (s 121 (x3 + (-1)).toNatClampNeg)] s (fun v t => q_W G d jm_Machine_run B 209 [some (.ref 119), some (.ref x1), some (.int x2), some (.int (x3 + (-1))), some (.int x4), some (.int (s (x1 + 1) x4.toNatClampNeg))] (v.toList ++ [.int ((x3 + (-1)) - 1), .ref 121]) t))
    (k21 : x4 < (s (x1 + 2) (x2 + 1).toNatClampNeg) → x4 < 200 → (s (x1 + 1) x4.toNatClampNeg) < (-8) → ¬ (s (x1 + 1) x4.toNatClampNeg) = (-11) → ¬ (s (x1 + 1) x4.toNatClampNeg) = (-17) → x3 < 2 → B (some (.int 0)) s)
    (k22 : x4 < (s (x1 + 2) (x2 + 1).toNatClampNeg) → x4 < 200 → (s (x1 + 1) x4.toNatClampNeg) < (-8) → ¬ (s (x1 + 1) x4.toNatClampNeg) = (-11) → (s (x1 + 1) x4.toNatClampNeg) = (-17) → ¬ x3 < 1 → jv_in (x3 - 1) 200 = true)
    (k23 : x4 < (s (x1 + 2) (x2 + 1).toNatClampNeg) → x4 < 200 → (s (x1 + 1) x4.toNatClampNeg) < (-8) → ¬ (s (x1 + 1) x4.toNatClampNeg) = (-11) → (s (x1 + 1) x4.toNatClampNeg) = (-17) → ¬ x3 < 1 → jv_in (x3 - 1) 200 = true)
    (k24 : x4 < (s (x1 + 2) (x2 + 1).toNatClampNeg) → x4 < 200 → (s (x1 + 1) x4.toNatClampNeg) < (-8) → ¬ (s (x1 + 1) x4.toNatClampNeg) = (-11) → (s (x1 + 1) x4.toNatClampNeg) = (-17) → ¬ x3 < 1 → ∀ s4 : jg_H, s4 = jg_up s 121 (x3 - 1).toNatClampNeg (-(s 121 (x3 - 1).toNatClampNeg)) → q_W G d jm_Machine_run B 21 [some (.ref 119), some (.ref x1), some (.int x2), some (.int x3), some (.int (x4 + 1)), some (.int (s (x1 + 1) x4.toNatClampNeg))] [] s4)
    (k25 : x4 < (s (x1 + 2) (x2 + 1).toNatClampNeg) → x4 < 200 → (s (x1 + 1) x4.toNatClampNeg) < (-8) → ¬ (s (x1 + 1) x4.toNatClampNeg) = (-11) → (s (x1 + 1) x4.toNatClampNeg) = (-17) → x3 < 1 → B (some (.int 0)) s)
    (k26 : x4 < (s (x1 + 2) (x2 + 1).toNatClampNeg) → x4 < 200 → ¬ (s (x1 + 1) x4.toNatClampNeg) < (-8) → x3 < 200 → (s (x1 + 1) x4.toNatClampNeg) < 0 → jv_in ((-1) - (s (x1 + 1) x4.toNatClampNeg)) 8 = true)
    (k27 : x4 < (s (x1 + 2) (x2 + 1).toNatClampNeg) → x4 < 200 → ¬ (s (x1 + 1) x4.toNatClampNeg) < (-8) → x3 < 200 → (s (x1 + 1) x4.toNatClampNeg) < 0 → jv_in x3 200 = true)
    (k28 : x4 < (s (x1 + 2) (x2 + 1).toNatClampNeg) → x4 < 200 → ¬ (s (x1 + 1) x4.toNatClampNeg) < (-8) → x3 < 200 → (s (x1 + 1) x4.toNatClampNeg) < 0 → ∀ s5 : jg_H, s5 = jg_up s 121 x3.toNatClampNeg (s 120 ((-1) - (s (x1 + 1) x4.toNatClampNeg)).toNatClampNeg) → q_W G d jm_Machine_run B 21 [some (.ref 119), some (.ref x1), some (.int x2), some (.int (x3 + 1)), some (.int (x4 + 1)), some (.int (s (x1 + 1) x4.toNatClampNeg))] [] s5)
    (k29 : x4 < (s (x1 + 2) (x2 + 1).toNatClampNeg) → x4 < 200 → ¬ (s (x1 + 1) x4.toNatClampNeg) < (-8) → x3 < 200 → ¬ (s (x1 + 1) x4.toNatClampNeg) < 0 → jv_in x3 200 = true)
    (k30 : x4 < (s (x1 + 2) (x2 + 1).toNatClampNeg) → x4 < 200 → ¬ (s (x1 + 1) x4.toNatClampNeg) < (-8) → x3 < 200 → ¬ (s (x1 + 1) x4.toNatClampNeg) < 0 → ∀ s6 : jg_H, s6 = jg_up s 121 x3.toNatClampNeg (s (x1 + 1) x4.toNatClampNeg) → q_W G d jm_Machine_run B 21 [some (.ref 119), some (.ref x1), some (.int x2), some (.int (x3 + 1)), some (.int (x4 + 1)), some (.int (s (x1 + 1) x4.toNatClampNeg))] [] s6)
    (k31 : x4 < (s (x1 + 2) (x2 + 1).toNatClampNeg) → x4 < 200 → ¬ (s (x1 + 1) x4.toNatClampNeg) < (-8) → ¬ x3 < 200 → B (some (.int 0)) s) :
    q_W G d jm_Machine_run B 21 [some (.ref 119), some (.ref x1), some (.int x2), some (.int x3), some (.int x4), o5] [] s := by
  refine q_iload (pc' := 23) ja_Machine_run_21 rfl rfl ?_
  refine q_aload_n (pc' := 24) ja_Machine_run_23 rfl rfl ?_
  refine q_getf (pc' := 27) (v := .ref (x1 + 2)) ja_Machine_run_24 rfl (f_9_c hx1) ⟨by rw [f_9_k hx1], by decide⟩ (f_9_g2 hx1) ?_
  refine q_iload_n (pc' := 28) ja_Machine_run_27 rfl rfl ?_
  refine q_iconst (pc' := 29) ja_Machine_run_28 rfl 1 (by decide) ?_
  refine q_iadd (pc' := 30) ja_Machine_run_29 rfl ?_
  refine q_iald (pc' := 31) (v := .int (s (x1 + 2) (x2 + 1).toNatClampNeg)) ja_Machine_run_30 rfl (f_a_c (f_9_s2 hx1)) (l := 5) (f_a_k (f_9_s2 hx1)) k1 (f_i (f_a_k (f_9_s2 hx1)) rfl) ?_
  refine q_ic_ge (pc' := 34) ja_Machine_run_31 rfl ?_ ?_
  · intro h1
    refine q_iload_n (pc' := 217) ja_Machine_run_216 rfl rfl ?_
    refine q_iconst (pc' := 218) ja_Machine_run_217 rfl 1 (by decide) ?_
    refine q_ic_ge (pc' := 221) ja_Machine_run_218 rfl ?_ ?_
    · intro h2
      refine q_aload_n (pc' := 226) ja_Machine_run_225 rfl rfl ?_
      refine q_getf (pc' := 229) (v := .ref 121) ja_Machine_run_226 rfl (by decide) ⟨rfl, by decide⟩ rfl ?_
      refine q_iload_n (pc' := 230) ja_Machine_run_229 rfl rfl ?_
      refine q_iconst (pc' := 231) ja_Machine_run_230 rfl 1 (by decide) ?_
      refine q_isub (pc' := 232) ja_Machine_run_231 rfl ?_
      refine q_iald (pc' := 233) (v := .int (s 121 (x3 - 1).toNatClampNeg)) ja_Machine_run_232 rfl (by decide) (l := 200) rfl (k2 h1 h2) rfl ?_
      exact q_iret ja_Machine_run_233 rfl rfl (k3 h1 h2)
    · intro h3
      refine q_iconst (pc' := 222) ja_Machine_run_221 rfl 0 (by decide) ?_
      refine q_goto ja_Machine_run_222 ?_
      exact q_iret ja_Machine_run_233 rfl rfl (k4 h1 h3)
  · intro h4
    refine q_iload (pc' := 36) ja_Machine_run_34 rfl rfl ?_
    refine q_aload_n (pc' := 37) ja_Machine_run_36 rfl rfl ?_
    refine q_getf (pc' := 40) (v := .ref (x1 + 1)) ja_Machine_run_37 rfl (f_9_c hx1) ⟨by rw [f_9_k hx1], by decide⟩ (f_9_g0 hx1) ?_
    refine q_alen (pc' := 41) ja_Machine_run_40 rfl (f_a_c (f_9_s0 hx1)) (kd := 13) (l := 200) (f_a_k (f_9_s0 hx1)) (by decide) (v := 200) (by decide) ?_
    refine q_ic_ge (pc' := 44) ja_Machine_run_41 rfl ?_ ?_
    · intro h5
      refine q_iload_n (pc' := 217) ja_Machine_run_216 rfl rfl ?_
      refine q_iconst (pc' := 218) ja_Machine_run_217 rfl 1 (by decide) ?_
      refine q_ic_ge (pc' := 221) ja_Machine_run_218 rfl ?_ ?_
      · intro h6
        refine q_aload_n (pc' := 226) ja_Machine_run_225 rfl rfl ?_
        refine q_getf (pc' := 229) (v := .ref 121) ja_Machine_run_226 rfl (by decide) ⟨rfl, by decide⟩ rfl ?_
        refine q_iload_n (pc' := 230) ja_Machine_run_229 rfl rfl ?_
        refine q_iconst (pc' := 231) ja_Machine_run_230 rfl 1 (by decide) ?_
        refine q_isub (pc' := 232) ja_Machine_run_231 rfl ?_
        refine q_iald (pc' := 233) (v := .int (s 121 (x3 - 1).toNatClampNeg)) ja_Machine_run_232 rfl (by decide) (l := 200) rfl (k5 h4 h5 h6) rfl ?_
        exact q_iret ja_Machine_run_233 rfl rfl (k6 h4 h5 h6)
      · intro h7
        refine q_iconst (pc' := 222) ja_Machine_run_221 rfl 0 (by decide) ?_
        refine q_goto ja_Machine_run_222 ?_
        exact q_iret ja_Machine_run_233 rfl rfl (k7 h4 h5 h7)
    · intro h8
      refine q_aload_n (pc' := 45) ja_Machine_run_44 rfl rfl ?_
      refine q_getf (pc' := 48) (v := .ref (x1 + 1)) ja_Machine_run_45 rfl (f_9_c hx1) ⟨by rw [f_9_k hx1], by decide⟩ (f_9_g0 hx1) ?_
      refine q_iload (pc' := 50) ja_Machine_run_48 rfl rfl ?_
      refine q_iald (pc' := 51) (v := .int (s (x1 + 1) x4.toNatClampNeg)) ja_Machine_run_50 rfl (f_a_c (f_9_s0 hx1)) (l := 200) (f_a_k (f_9_s0 hx1)) (k8 h4 h8) (f_i (f_a_k (f_9_s0 hx1)) rfl) ?_
      refine q_istore (pc' := 53) (ls' := [some (.ref 119), some (.ref x1), some (.int x2), some (.int x3), some (.int x4), some (.int (s (x1 + 1) x4.toNatClampNeg))]) ja_Machine_run_51 rfl ⟨Nat.le_of_ble_eq_true rfl, rfl⟩ rfl ?_
      refine q_iload (pc' := 55) ja_Machine_run_53 rfl rfl ?_
      refine q_aload_n (pc' := 56) ja_Machine_run_55 rfl rfl ?_
      refine q_getf (pc' := 59) (v := .ref 120) ja_Machine_run_56 rfl (by decide) ⟨rfl, by decide⟩ rfl ?_
      refine q_alen (pc' := 60) ja_Machine_run_59 rfl (by decide) (kd := 13) (l := 8) rfl (by decide) (v := 8) (by decide) ?_
      refine q_ineg (pc' := 61) ja_Machine_run_60 rfl ?_
      refine q_ic_lt (pc' := 64) ja_Machine_run_61 rfl ?_ ?_
      · intro h9
        refine q_iload (pc' := 108) ja_Machine_run_106 rfl rfl ?_
        refine q_bipush (pc' := 110) ja_Machine_run_108 rfl (-11) (by decide) ?_
        refine q_ic_eq (pc' := 113) ja_Machine_run_110 rfl ?_ ?_
        · intro h10
          refine q_iload_n (pc' := 121) ja_Machine_run_120 rfl rfl ?_
          refine q_iconst (pc' := 122) ja_Machine_run_121 rfl 1 (by decide) ?_
          refine q_ic_ge (pc' := 125) ja_Machine_run_122 rfl ?_ ?_
          · intro h11
            refine q_aload_n (pc' := 128) ja_Machine_run_127 rfl rfl ?_
            refine q_getf (pc' := 131) (v := .ref 121) ja_Machine_run_128 rfl (by decide) ⟨rfl, by decide⟩ rfl ?_
            refine q_iload_n (pc' := 132) ja_Machine_run_131 rfl rfl ?_
            refine q_iconst (pc' := 133) ja_Machine_run_132 rfl 1 (by decide) ?_
            refine q_isub (pc' := 134) ja_Machine_run_133 rfl ?_
            refine q_iload (pc' := 136) ja_Machine_run_134 rfl rfl ?_
            refine q_bipush (pc' := 138) ja_Machine_run_136 rfl (-17) (by decide) ?_
            refine q_ic_ne (pc' := 141) ja_Machine_run_138 rfl ?_ ?_
            · intro h12
              refine q_aload_n (pc' := 154) ja_Machine_run_153 rfl rfl ?_
              refine q_getf (pc' := 157) (v := .ref 121) ja_Machine_run_154 rfl (by decide) ⟨rfl, by decide⟩ rfl ?_
              refine q_iload_n (pc' := 158) ja_Machine_run_157 rfl rfl ?_
              refine q_iconst (pc' := 159) ja_Machine_run_158 rfl 1 (by decide) ?_
              refine q_isub (pc' := 160) ja_Machine_run_159 rfl ?_
              refine q_iald (pc' := 161) (v := .int (s 121 (x3 - 1).toNatClampNeg)) ja_Machine_run_160 rfl (by decide) (l := 200) rfl (k9 h4 h8 h9 h10 h11 h12) rfl ?_
              refine q_if_ne (pc' := 164) ja_Machine_run_161 rfl ?_ ?_
              · intro h13
                refine q_iconst (pc' := 169) ja_Machine_run_168 rfl 0 (by decide) ?_
                refine q_iast (pc' := 170) ja_Machine_run_169 rfl (by decide) (l := 200) rfl (k10 h4 h8 h9 h10 h11 h12 h13) ?_
                intro s1 e1
                refine q_goto ja_Machine_run_170 ?_
                refine q_iinc (pc' := 213) (ls' := [some (.ref 119), some (.ref x1), some (.int x2), some (.int x3), some (.int (x4 + 1)), some (.int (s (x1 + 1) x4.toNatClampNeg))]) ja_Machine_run_210 rfl rfl (x4 + 1) rfl ⟨Nat.le_of_ble_eq_true rfl, rfl⟩ rfl ?_
                refine q_goto ja_Machine_run_213 ?_
                exact (k11 h4 h8 h9 h10 h11 h12 h13 s1 e1)
              · intro h14
                refine q_iconst (pc' := 165) ja_Machine_run_164 rfl 1 (by decide) ?_
                refine q_goto ja_Machine_run_165 ?_
                refine q_iast (pc' := 170) ja_Machine_run_169 rfl (by decide) (l := 200) rfl (k12 h4 h8 h9 h10 h11 h12 h14) ?_
                intro s2 e2
                refine q_goto ja_Machine_run_170 ?_
                refine q_iinc (pc' := 213) (ls' := [some (.ref 119), some (.ref x1), some (.int x2), some (.int x3), some (.int (x4 + 1)), some (.int (s (x1 + 1) x4.toNatClampNeg))]) ja_Machine_run_210 rfl rfl (x4 + 1) rfl ⟨Nat.le_of_ble_eq_true rfl, rfl⟩ rfl ?_
                refine q_goto ja_Machine_run_213 ?_
                exact (k13 h4 h8 h9 h10 h11 h12 h14 s2 e2)
            · intro h15
              refine q_aload_n (pc' := 142) ja_Machine_run_141 rfl rfl ?_
              refine q_getf (pc' := 145) (v := .ref 121) ja_Machine_run_142 rfl (by decide) ⟨rfl, by decide⟩ rfl ?_
              refine q_iload_n (pc' := 146) ja_Machine_run_145 rfl rfl ?_
              refine q_iconst (pc' := 147) ja_Machine_run_146 rfl 1 (by decide) ?_
              refine q_isub (pc' := 148) ja_Machine_run_147 rfl ?_
              refine q_iald (pc' := 149) (v := .int (s 121 (x3 - 1).toNatClampNeg)) ja_Machine_run_148 rfl (by decide) (l := 200) rfl (k14 h4 h8 h9 h10 h11 h15) rfl ?_
              refine q_ineg (pc' := 150) ja_Machine_run_149 rfl ?_
              refine q_goto ja_Machine_run_150 ?_
              refine q_iast (pc' := 170) ja_Machine_run_169 rfl (by decide) (l := 200) rfl (k15 h4 h8 h9 h10 h11 h15) ?_
              intro s3 e3
              refine q_goto ja_Machine_run_170 ?_
              refine q_iinc (pc' := 213) (ls' := [some (.ref 119), some (.ref x1), some (.int x2), some (.int x3), some (.int (x4 + 1)), some (.int (s (x1 + 1) x4.toNatClampNeg))]) ja_Machine_run_210 rfl rfl (x4 + 1) rfl ⟨Nat.le_of_ble_eq_true rfl, rfl⟩ rfl ?_
              refine q_goto ja_Machine_run_213 ?_
              exact (k16 h4 h8 h9 h10 h11 h15 s3 e3)
          · intro h16
            refine q_iconst (pc' := 126) ja_Machine_run_125 rfl 0 (by decide) ?_
            exact q_iret ja_Machine_run_126 rfl rfl (k17 h4 h8 h9 h10 h16)
        · intro h17
          refine q_iload (pc' := 115) ja_Machine_run_113 rfl rfl ?_
          refine q_bipush (pc' := 117) ja_Machine_run_115 rfl (-17) (by decide) ?_
          refine q_ic_ne (pc' := 120) ja_Machine_run_117 rfl ?_ ?_
          · intro h18
            refine q_iload_n (pc' := 174) ja_Machine_run_173 rfl rfl ?_
            refine q_iconst (pc' := 175) ja_Machine_run_174 rfl 2 (by decide) ?_
            refine q_ic_ge (pc' := 178) ja_Machine_run_175 rfl ?_ ?_
            · intro h19
              refine q_iinc (pc' := 183) (ls' := [some (.ref 119), some (.ref x1), some (.int x2), some (.int (x3 + (-1))), some (.int x4), some (.int (s (x1 + 1) x4.toNatClampNeg))]) ja_Machine_run_180 rfl rfl (x3 + (-1)) rfl ⟨Nat.le_of_ble_eq_true rfl, rfl⟩ rfl ?_
              refine q_aload_n (pc' := 184) ja_Machine_run_183 rfl rfl ?_
              refine q_getf (pc' := 187) (v := .ref 121) ja_Machine_run_184 rfl (by decide) ⟨rfl, by decide⟩ rfl ?_
              refine q_iload_n (pc' := 188) ja_Machine_run_187 rfl rfl ?_
              refine q_iconst (pc' := 189) ja_Machine_run_188 rfl 1 (by decide) ?_
              refine q_isub (pc' := 190) ja_Machine_run_189 rfl ?_
              refine q_iload (pc' := 192) ja_Machine_run_190 rfl rfl ?_
              refine q_aload_n (pc' := 193) ja_Machine_run_192 rfl rfl ?_
              refine q_getf (pc' := 196) (v := .ref 121) ja_Machine_run_193 rfl (by decide) ⟨rfl, by decide⟩ rfl ?_
              refine q_iload_n (pc' := 197) ja_Machine_run_196 rfl rfl ?_
              refine q_iconst (pc' := 198) ja_Machine_run_197 rfl 1 (by decide) ?_
              refine q_isub (pc' := 199) ja_Machine_run_198 rfl ?_
              refine q_iald (pc' := 200) (v := .int (s 121 ((x3 + (-1)) - 1).toNatClampNeg)) ja_Machine_run_199 rfl (by decide) (l := 200) rfl (k18 h4 h8 h9 h17 h18 h19) rfl ?_
              refine q_aload_n (pc' := 201) ja_Machine_run_200 rfl rfl ?_
              refine q_getf (pc' := 204) (v := .ref 121) ja_Machine_run_201 rfl (by decide) ⟨rfl, by decide⟩ rfl ?_
              refine q_iload_n (pc' := 205) ja_Machine_run_204 rfl rfl ?_
              refine q_iald (pc' := 206) (v := .int (s 121 (x3 + (-1)).toNatClampNeg)) ja_Machine_run_205 rfl (by decide) (l := 200) rfl (k19 h4 h8 h9 h17 h18 h19) rfl ?_
              refine q_stat (pc' := 209) (as := [.int (s (x1 + 1) x4.toNatClampNeg), .int (s 121 ((x3 + (-1)) - 1).toNatClampNeg), .int (s 121 (x3 + (-1)).toNatClampNeg)]) (r := [.int ((x3 + (-1)) - 1), .ref 121]) ja_Machine_run_206 rfl (by decide) rfl rfl ?_
              exact (k20 h4 h8 h9 h17 h18 h19)
            · intro h20
              refine q_iconst (pc' := 179) ja_Machine_run_178 rfl 0 (by decide) ?_
              exact q_iret ja_Machine_run_179 rfl rfl (k21 h4 h8 h9 h17 h18 h20)
          · intro h21
            refine q_iload_n (pc' := 121) ja_Machine_run_120 rfl rfl ?_
            refine q_iconst (pc' := 122) ja_Machine_run_121 rfl 1 (by decide) ?_
            refine q_ic_ge (pc' := 125) ja_Machine_run_122 rfl ?_ ?_
            · intro h22
              refine q_aload_n (pc' := 128) ja_Machine_run_127 rfl rfl ?_
              refine q_getf (pc' := 131) (v := .ref 121) ja_Machine_run_128 rfl (by decide) ⟨rfl, by decide⟩ rfl ?_
              refine q_iload_n (pc' := 132) ja_Machine_run_131 rfl rfl ?_
              refine q_iconst (pc' := 133) ja_Machine_run_132 rfl 1 (by decide) ?_
              refine q_isub (pc' := 134) ja_Machine_run_133 rfl ?_
              refine q_iload (pc' := 136) ja_Machine_run_134 rfl rfl ?_
              refine q_bipush (pc' := 138) ja_Machine_run_136 rfl (-17) (by decide) ?_
              refine q_ic_ne (pc' := 141) ja_Machine_run_138 rfl (fun h => absurd (h21) h) (fun _ => ?_)
              refine q_aload_n (pc' := 142) ja_Machine_run_141 rfl rfl ?_
              refine q_getf (pc' := 145) (v := .ref 121) ja_Machine_run_142 rfl (by decide) ⟨rfl, by decide⟩ rfl ?_
              refine q_iload_n (pc' := 146) ja_Machine_run_145 rfl rfl ?_
              refine q_iconst (pc' := 147) ja_Machine_run_146 rfl 1 (by decide) ?_
              refine q_isub (pc' := 148) ja_Machine_run_147 rfl ?_
              refine q_iald (pc' := 149) (v := .int (s 121 (x3 - 1).toNatClampNeg)) ja_Machine_run_148 rfl (by decide) (l := 200) rfl (k22 h4 h8 h9 h17 h21 h22) rfl ?_
              refine q_ineg (pc' := 150) ja_Machine_run_149 rfl ?_
              refine q_goto ja_Machine_run_150 ?_
              refine q_iast (pc' := 170) ja_Machine_run_169 rfl (by decide) (l := 200) rfl (k23 h4 h8 h9 h17 h21 h22) ?_
              intro s4 e4
              refine q_goto ja_Machine_run_170 ?_
              refine q_iinc (pc' := 213) (ls' := [some (.ref 119), some (.ref x1), some (.int x2), some (.int x3), some (.int (x4 + 1)), some (.int (s (x1 + 1) x4.toNatClampNeg))]) ja_Machine_run_210 rfl rfl (x4 + 1) rfl ⟨Nat.le_of_ble_eq_true rfl, rfl⟩ rfl ?_
              refine q_goto ja_Machine_run_213 ?_
              exact (k24 h4 h8 h9 h17 h21 h22 s4 e4)
            · intro h23
              refine q_iconst (pc' := 126) ja_Machine_run_125 rfl 0 (by decide) ?_
              exact q_iret ja_Machine_run_126 rfl rfl (k25 h4 h8 h9 h17 h21 h23)
      · intro h24
        refine q_iload_n (pc' := 65) ja_Machine_run_64 rfl rfl ?_
        refine q_aload_n (pc' := 66) ja_Machine_run_65 rfl rfl ?_
        refine q_getf (pc' := 69) (v := .ref 121) ja_Machine_run_66 rfl (by decide) ⟨rfl, by decide⟩ rfl ?_
        refine q_alen (pc' := 70) ja_Machine_run_69 rfl (by decide) (kd := 13) (l := 200) rfl (by decide) (v := 200) (by decide) ?_
        refine q_ic_lt (pc' := 73) ja_Machine_run_70 rfl ?_ ?_
        · intro h25
          refine q_aload_n (pc' := 76) ja_Machine_run_75 rfl rfl ?_
          refine q_getf (pc' := 79) (v := .ref 121) ja_Machine_run_76 rfl (by decide) ⟨rfl, by decide⟩ rfl ?_
          refine q_iload_n (pc' := 80) ja_Machine_run_79 rfl rfl ?_
          refine q_iload (pc' := 82) ja_Machine_run_80 rfl rfl ?_
          refine q_if_lt (pc' := 85) ja_Machine_run_82 rfl ?_ ?_
          · intro h26
            refine q_aload_n (pc' := 91) ja_Machine_run_90 rfl rfl ?_
            refine q_getf (pc' := 94) (v := .ref 120) ja_Machine_run_91 rfl (by decide) ⟨rfl, by decide⟩ rfl ?_
            refine q_iconst (pc' := 95) ja_Machine_run_94 rfl (-1) (by decide) ?_
            refine q_iload (pc' := 97) ja_Machine_run_95 rfl rfl ?_
            refine q_isub (pc' := 98) ja_Machine_run_97 rfl ?_
            refine q_iald (pc' := 99) (v := .int (s 120 ((-1) - (s (x1 + 1) x4.toNatClampNeg)).toNatClampNeg)) ja_Machine_run_98 rfl (by decide) (l := 8) rfl (k26 h4 h8 h24 h25 h26) rfl ?_
            refine q_iast (pc' := 100) ja_Machine_run_99 rfl (by decide) (l := 200) rfl (k27 h4 h8 h24 h25 h26) ?_
            intro s5 e5
            refine q_iinc (pc' := 103) (ls' := [some (.ref 119), some (.ref x1), some (.int x2), some (.int (x3 + 1)), some (.int x4), some (.int (s (x1 + 1) x4.toNatClampNeg))]) ja_Machine_run_100 rfl rfl (x3 + 1) rfl ⟨Nat.le_of_ble_eq_true rfl, rfl⟩ rfl ?_
            refine q_goto ja_Machine_run_103 ?_
            refine q_iinc (pc' := 213) (ls' := [some (.ref 119), some (.ref x1), some (.int x2), some (.int (x3 + 1)), some (.int (x4 + 1)), some (.int (s (x1 + 1) x4.toNatClampNeg))]) ja_Machine_run_210 rfl rfl (x4 + 1) rfl ⟨Nat.le_of_ble_eq_true rfl, rfl⟩ rfl ?_
            refine q_goto ja_Machine_run_213 ?_
            exact (k28 h4 h8 h24 h25 h26 s5 e5)
          · intro h27
            refine q_iload (pc' := 87) ja_Machine_run_85 rfl rfl ?_
            refine q_goto ja_Machine_run_87 ?_
            refine q_iast (pc' := 100) ja_Machine_run_99 rfl (by decide) (l := 200) rfl (k29 h4 h8 h24 h25 h27) ?_
            intro s6 e6
            refine q_iinc (pc' := 103) (ls' := [some (.ref 119), some (.ref x1), some (.int x2), some (.int (x3 + 1)), some (.int x4), some (.int (s (x1 + 1) x4.toNatClampNeg))]) ja_Machine_run_100 rfl rfl (x3 + 1) rfl ⟨Nat.le_of_ble_eq_true rfl, rfl⟩ rfl ?_
            refine q_goto ja_Machine_run_103 ?_
            refine q_iinc (pc' := 213) (ls' := [some (.ref 119), some (.ref x1), some (.int x2), some (.int (x3 + 1)), some (.int (x4 + 1)), some (.int (s (x1 + 1) x4.toNatClampNeg))]) ja_Machine_run_210 rfl rfl (x4 + 1) rfl ⟨Nat.le_of_ble_eq_true rfl, rfl⟩ rfl ?_
            refine q_goto ja_Machine_run_213 ?_
            exact (k30 h4 h8 h24 h25 h27 s6 e6)
        · intro h28
          refine q_iconst (pc' := 74) ja_Machine_run_73 rfl 0 (by decide) ?_
          exact q_iret ja_Machine_run_74 rfl rfl (k31 h4 h8 h24 h28)
set_option maxRecDepth 20000 in
theorem t2_Machine_run_209 {G : jv_X} {d : Nat} {B : Option Value → jg_H → Prop} {s : jg_H} {x1 : Nat} (hx1 : f_9 x1) (x2 : Int32) (x3 : Int32) (x4 : Int32) (x5 : Int32) (y1 : Int32) (y2 : Int32)
    (k1 : jv_in y1 200 = true)
    (k2 : ∀ s1 : jg_H, s1 = jg_up s 121 y1.toNatClampNeg y2 → q_W G d jm_Machine_run B 21 [some (.ref 119), some (.ref x1), some (.int x2), some (.int x3), some (.int (x4 + 1)), some (.int x5)] [] s1) :
    q_W G d jm_Machine_run B 209 [some (.ref 119), some (.ref x1), some (.int x2), some (.int x3), some (.int x4), some (.int x5)] [.int y2, .int y1, .ref 121] s := by
  refine q_iast (pc' := 210) ja_Machine_run_209 rfl (by decide) (l := 200) rfl k1 ?_
  intro s1 e1
  refine q_iinc (pc' := 213) (ls' := [some (.ref 119), some (.ref x1), some (.int x2), some (.int x3), some (.int (x4 + 1)), some (.int x5)]) ja_Machine_run_210 rfl rfl (x4 + 1) rfl ⟨Nat.le_of_ble_eq_true rfl, rfl⟩ rfl ?_
  refine q_goto ja_Machine_run_213 ?_
  exact (k2 s1 e1)
set_option maxRecDepth 20000 in
theorem t2_M_worked {G : jv_X} {d : Nat} {B : Option Value → jg_H → Prop} {s : jg_H} (a1 : Int32) (a2 : Int32) (a3 : Int32) (a4 : Int32) (a5 : Int32) (a6 : Int32) (a7 : Int32)
    (k1 : ∀ s1 : jg_H, s1 = jg_up s 146 48 a3 → ∀ s2 : jg_H, s2 = jg_up s1 146 49 a4 → ∀ s3 : jg_H, s3 = jg_up s2 146 50 a5 → ∀ s4 : jg_H, s4 = jg_up s3 146 51 a6 → ∀ s5 : jg_H, s5 = jg_up s4 146 52 a7 → jv_in ((5 * a1) + a2) 45 = true)
    (k2 : ∀ s1 : jg_H, s1 = jg_up s 146 48 a3 → ∀ s2 : jg_H, s2 = jg_up s1 146 49 a4 → ∀ s3 : jg_H, s3 = jg_up s2 146 50 a5 → ∀ s4 : jg_H, s4 = jg_up s3 146 51 a6 → ∀ s5 : jg_H, s5 = jg_up s4 146 52 a7 → q_W G d jm_M_worked B 50 [some (.ref 146), some (.int a1), some (.int a2), some (.int a3), some (.int a4), some (.int a5), some (.int a6), some (.int a7), some (.int 0), some (.int ((200 * a1) + (s5 165 ((5 * a1) + a2).toNatClampNeg))), none] [] s5) :
    q_P G (d + 1) 178 [.ref 146, .int a1, .int a2, .int a3, .int a4, .int a5, .int a6, .int a7] s B := by
  refine q_in (M := jm_M_worked) rfl (Nat.le_of_ble_eq_true rfl) (ls := [some (.ref 146), some (.int a1), some (.int a2), some (.int a3), some (.int a4), some (.int a5), some (.int a6), some (.int a7), none, none, none]) rfl ?_
  refine q_aload_n (pc' := 1) ja_M_worked_0 rfl rfl ?_
  refine q_iload_n (pc' := 2) ja_M_worked_1 rfl rfl ?_
  refine q_putf (pc' := 5) ja_M_worked_2 rfl (by decide) rfl rfl rfl ?_
  intro s1 e1
  refine q_aload_n (pc' := 6) ja_M_worked_5 rfl rfl ?_
  refine q_iload (pc' := 8) ja_M_worked_6 rfl rfl ?_
  refine q_putf (pc' := 11) ja_M_worked_8 rfl (by decide) rfl rfl rfl ?_
  intro s2 e2
  refine q_aload_n (pc' := 12) ja_M_worked_11 rfl rfl ?_
  refine q_iload (pc' := 14) ja_M_worked_12 rfl rfl ?_
  refine q_putf (pc' := 17) ja_M_worked_14 rfl (by decide) rfl rfl rfl ?_
  intro s3 e3
  refine q_aload_n (pc' := 18) ja_M_worked_17 rfl rfl ?_
  refine q_iload (pc' := 20) ja_M_worked_18 rfl rfl ?_
  refine q_putf (pc' := 23) ja_M_worked_20 rfl (by decide) rfl rfl rfl ?_
  intro s4 e4
  refine q_aload_n (pc' := 24) ja_M_worked_23 rfl rfl ?_
  refine q_iload (pc' := 26) ja_M_worked_24 rfl rfl ?_
  refine q_putf (pc' := 29) ja_M_worked_26 rfl (by decide) rfl rfl rfl ?_
  intro s5 e5
  refine q_iconst (pc' := 30) ja_M_worked_29 rfl 0 (by decide) ?_
  refine q_istore (pc' := 32) (ls' := [some (.ref 146), some (.int a1), some (.int a2), some (.int a3), some (.int a4), some (.int a5), some (.int a6), some (.int a7), some (.int 0), none, none]) ja_M_worked_30 rfl ⟨Nat.le_of_ble_eq_true rfl, rfl⟩ rfl ?_
  refine q_sipush (pc' := 35) ja_M_worked_32 rfl 200 (by decide) ?_
  refine q_iload_n (pc' := 36) ja_M_worked_35 rfl rfl ?_
  refine q_imul (pc' := 37) ja_M_worked_36 rfl ?_
  refine q_aload_n (pc' := 38) ja_M_worked_37 rfl rfl ?_
  refine q_getf (pc' := 41) (v := .ref 165) ja_M_worked_38 rfl (by decide) ⟨rfl, by decide⟩ rfl ?_
  refine q_iconst (pc' := 42) ja_M_worked_41 rfl 5 (by decide) ?_
  refine q_iload_n (pc' := 43) ja_M_worked_42 rfl rfl ?_
  refine q_imul (pc' := 44) ja_M_worked_43 rfl ?_
  refine q_iload_n (pc' := 45) ja_M_worked_44 rfl rfl ?_
  refine q_iadd (pc' := 46) ja_M_worked_45 rfl ?_
  refine q_iald (pc' := 47) (v := .int (s5 165 ((5 * a1) + a2).toNatClampNeg)) ja_M_worked_46 rfl (by decide) (l := 45) rfl (k1 s1 e1 s2 e2 s3 e3 s4 e4 s5 e5) rfl ?_
  refine q_iadd (pc' := 48) ja_M_worked_47 rfl ?_
  refine q_istore (pc' := 50) (ls' := [some (.ref 146), some (.int a1), some (.int a2), some (.int a3), some (.int a4), some (.int a5), some (.int a6), some (.int a7), some (.int 0), some (.int ((200 * a1) + (s5 165 ((5 * a1) + a2).toNatClampNeg))), none]) ja_M_worked_48 rfl ⟨Nat.le_of_ble_eq_true rfl, rfl⟩ rfl ?_
  exact (k2 s1 e1 s2 e2 s3 e3 s4 e4 s5 e5)
set_option maxRecDepth 20000 in
theorem t2_M_worked_50 {G : jv_X} {d : Nat} {B : Option Value → jg_H → Prop} {s : jg_H} (x1 : Int32) (x2 : Int32) (x3 : Int32) (x4 : Int32) (x5 : Int32) (x6 : Int32) (x7 : Int32) (x8 : Int32) (x9 : Int32) {o10 : Option Value} (ho10 : f_n o10 = true)
    (k1 : jv_in (((5 * x1) + x2) + 1) 45 = true)
    (k2 : ¬ x9 < ((200 * x1) + (s 165 (((5 * x1) + x2) + 1).toNatClampNeg)) → B (some (.int (s 170 0))) s)
    (k3 : x9 < ((200 * x1) + (s 165 (((5 * x1) + x2) + 1).toNatClampNeg)) → jv_in x9 1800 = true)
    (k4 : x9 < ((200 * x1) + (s 165 (((5 * x1) + x2) + 1).toNatClampNeg)) → (s 163 x9.toNatClampNeg) = 0 → jv_in x9 1800 = true)
    (k5 : x9 < ((200 * x1) + (s 165 (((5 * x1) + x2) + 1).toNatClampNeg)) → (s 163 x9.toNatClampNeg) = 0 → jv_in x8 220 = true)
    (k6 : x9 < ((200 * x1) + (s 165 (((5 * x1) + x2) + 1).toNatClampNeg)) → (s 163 x9.toNatClampNeg) = 0 → ∀ s1 : jg_H, s1 = jg_up s 170 x8.toNatClampNeg (s 164 x9.toNatClampNeg) → q_W G d jm_M_worked B 50 [some (.ref 146), some (.int x1), some (.int x2), some (.int x3), some (.int x4), some (.int x5), some (.int x6), some (.int x7), some (.int (x8 + 1)), some (.int (x9 + 1)), some (.int (s 163 x9.toNatClampNeg))] [] s1)
    (k7 : x9 < ((200 * x1) + (s 165 (((5 * x1) + x2) + 1).toNatClampNeg)) → ¬ (s 163 x9.toNatClampNeg) = 0 → ¬ (s 163 x9.toNatClampNeg) = 1 → ¬ (s 163 x9.toNatClampNeg) = 4 → ¬ (s 163 x9.toNatClampNeg) = 10 → jv_in ((x8 + (-1)) - 1) 220 = true)
    (k8 : x9 < ((200 * x1) + (s 165 (((5 * x1) + x2) + 1).toNatClampNeg)) → ¬ (s 163 x9.toNatClampNeg) = 0 → ¬ (s 163 x9.toNatClampNeg) = 1 → ¬ (s 163 x9.toNatClampNeg) = 4 → ¬ (s 163 x9.toNatClampNeg) = 10 → jv_in (x8 + (-1)) 220 = true)
    (k9 : x9 < ((200 * x1) + (s 165 (((5 * x1) + x2) + 1).toNatClampNeg)) → ¬ (s 163 x9.toNatClampNeg) = 0 → ¬ (s 163 x9.toNatClampNeg) = 1 → ¬ (s 163 x9.toNatClampNeg) = 4 → ¬ (s 163 x9.toNatClampNeg) = 10 → q_P G d 181 [.int (s 163 x9.toNatClampNeg), .int (s 170 ((x8 + (-1)) - 1).toNatClampNeg), .int (s 170 (x8 + (-1)).toNatClampNeg)] s (fun v t => q_W G d jm_M_worked B 228 [some (.ref 146), some (.int x1), some (.int x2), some (.int x3), some (.int x4), some (.int x5), some (.int x6), some (.int x7), some (.int (x8 + (-1))), some (.int x9), some (.int (s 163 x9.toNatClampNeg))] (v.toList ++ [.int ((x8 + (-1)) - 1), .ref 170]) t))
    (k10 : x9 < ((200 * x1) + (s 165 (((5 * x1) + x2) + 1).toNatClampNeg)) → ¬ (s 163 x9.toNatClampNeg) = 0 → ¬ (s 163 x9.toNatClampNeg) = 1 → ¬ (s 163 x9.toNatClampNeg) = 4 → (s 163 x9.toNatClampNeg) = 10 → jv_in (x8 - 1) 220 = true)
    (k11 : x9 < ((200 * x1) + (s 165 (((5 * x1) + x2) + 1).toNatClampNeg)) → ¬ (s 163 x9.toNatClampNeg) = 0 → ¬ (s 163 x9.toNatClampNeg) = 1 → ¬ (s 163 x9.toNatClampNeg) = 4 → (s 163 x9.toNatClampNeg) = 10 → jv_in (x8 - 1) 220 = true)
    (k12 : x9 < ((200 * x1) + (s 165 (((5 * x1) + x2) + 1).toNatClampNeg)) → ¬ (s 163 x9.toNatClampNeg) = 0 → ¬ (s 163 x9.toNatClampNeg) = 1 → ¬ (s 163 x9.toNatClampNeg) = 4 → (s 163 x9.toNatClampNeg) = 10 → ∀ s2 : jg_H, s2 = jg_up s 170 (x8 - 1).toNatClampNeg (-(s 170 (x8 - 1).toNatClampNeg)) → q_W G d jm_M_worked B 50 [some (.ref 146), some (.int x1), some (.int x2), some (.int x3), some (.int x4), some (.int x5), some (.int x6), some (.int x7), some (.int x8), some (.int (x9 + 1)), some (.int (s 163 x9.toNatClampNeg))] [] s2)
    (k13 : x9 < ((200 * x1) + (s 165 (((5 * x1) + x2) + 1).toNatClampNeg)) → ¬ (s 163 x9.toNatClampNeg) = 0 → ¬ (s 163 x9.toNatClampNeg) = 1 → (s 163 x9.toNatClampNeg) = 4 → jv_in (x8 - 1) 220 = true)
    (k14 : x9 < ((200 * x1) + (s 165 (((5 * x1) + x2) + 1).toNatClampNeg)) → ¬ (s 163 x9.toNatClampNeg) = 0 → ¬ (s 163 x9.toNatClampNeg) = 1 → (s 163 x9.toNatClampNeg) = 4 → ¬ (s 170 (x8 - 1).toNatClampNeg) = 0 → jv_in (x8 - 1) 220 = true)
    (k15 : x9 < ((200 * x1) + (s 165 (((5 * x1) + x2) + 1).toNatClampNeg)) → ¬ (s 163 x9.toNatClampNeg) = 0 → ¬ (s 163 x9.toNatClampNeg) = 1 → (s 163 x9.toNatClampNeg) = 4 → ¬ (s 170 (x8 - 1).toNatClampNeg) = 0 → ∀ s3 : jg_H, s3 = jg_up s 170 (x8 - 1).toNatClampNeg 0 → q_W G d jm_M_worked B 50 [some (.ref 146), some (.int x1), some (.int x2), some (.int x3), some (.int x4), some (.int x5), some (.int x6), some (.int x7), some (.int x8), some (.int (x9 + 1)), some (.int (s 163 x9.toNatClampNeg))] [] s3)
    (k16 : x9 < ((200 * x1) + (s 165 (((5 * x1) + x2) + 1).toNatClampNeg)) → ¬ (s 163 x9.toNatClampNeg) = 0 → ¬ (s 163 x9.toNatClampNeg) = 1 → (s 163 x9.toNatClampNeg) = 4 → (s 170 (x8 - 1).toNatClampNeg) = 0 → jv_in (x8 - 1) 220 = true)
    (k17 : x9 < ((200 * x1) + (s 165 (((5 * x1) + x2) + 1).toNatClampNeg)) → ¬ (s 163 x9.toNatClampNeg) = 0 → ¬ (s 163 x9.toNatClampNeg) = 1 → (s 163 x9.toNatClampNeg) = 4 → (s 170 (x8 - 1).toNatClampNeg) = 0 → ∀ s4 : jg_H, s4 = jg_up s 170 (x8 - 1).toNatClampNeg 1 → q_W G d jm_M_worked B 50 [some (.ref 146), some (.int x1), some (.int x2), some (.int x3), some (.int x4), some (.int x5), some (.int x6), some (.int x7), some (.int x8), some (.int (x9 + 1)), some (.int (s 163 x9.toNatClampNeg))] [] s4)
    (k18 : x9 < ((200 * x1) + (s 165 (((5 * x1) + x2) + 1).toNatClampNeg)) → ¬ (s 163 x9.toNatClampNeg) = 0 → (s 163 x9.toNatClampNeg) = 1 → jv_in x9 1800 = true)
    (k19 : x9 < ((200 * x1) + (s 165 (((5 * x1) + x2) + 1).toNatClampNeg)) → ¬ (s 163 x9.toNatClampNeg) = 0 → (s 163 x9.toNatClampNeg) = 1 → q_P G d 179 [.ref 146, .int (s 164 x9.toNatClampNeg)] s (fun v t => q_W G d jm_M_worked B 125 [some (.ref 146), some (.int x1), some (.int x2), some (.int x3), some (.int x4), some (.int x5), some (.int x6), some (.int x7), some (.int x8), some (.int x9), some (.int (s 163 x9.toNatClampNeg))] (v.toList ++ [.int x8, .ref 170]) t)) :
    q_W G d jm_M_worked B 50 [some (.ref 146), some (.int x1), some (.int x2), some (.int x3), some (.int x4), some (.int x5), some (.int x6), some (.int x7), some (.int x8), some (.int x9), o10] [] s := by
  refine q_iload (pc' := 52) ja_M_worked_50 rfl rfl ?_
  refine q_sipush (pc' := 55) ja_M_worked_52 rfl 200 (by decide) ?_
  refine q_iload_n (pc' := 56) ja_M_worked_55 rfl rfl ?_
  refine q_imul (pc' := 57) ja_M_worked_56 rfl ?_
  refine q_aload_n (pc' := 58) ja_M_worked_57 rfl rfl ?_
  refine q_getf (pc' := 61) (v := .ref 165) ja_M_worked_58 rfl (by decide) ⟨rfl, by decide⟩ rfl ?_
  refine q_iconst (pc' := 62) ja_M_worked_61 rfl 5 (by decide) ?_
  refine q_iload_n (pc' := 63) ja_M_worked_62 rfl rfl ?_
  refine q_imul (pc' := 64) ja_M_worked_63 rfl ?_
  refine q_iload_n (pc' := 65) ja_M_worked_64 rfl rfl ?_
  refine q_iadd (pc' := 66) ja_M_worked_65 rfl ?_
  refine q_iconst (pc' := 67) ja_M_worked_66 rfl 1 (by decide) ?_
  refine q_iadd (pc' := 68) ja_M_worked_67 rfl ?_
  refine q_iald (pc' := 69) (v := .int (s 165 (((5 * x1) + x2) + 1).toNatClampNeg)) ja_M_worked_68 rfl (by decide) (l := 45) rfl k1 rfl ?_
  refine q_iadd (pc' := 70) ja_M_worked_69 rfl ?_
  refine q_ic_ge (pc' := 73) ja_M_worked_70 rfl ?_ ?_
  · intro h1
    refine q_aload_n (pc' := 236) ja_M_worked_235 rfl rfl ?_
    refine q_getf (pc' := 239) (v := .ref 170) ja_M_worked_236 rfl (by decide) ⟨rfl, by decide⟩ rfl ?_
    refine q_iconst (pc' := 240) ja_M_worked_239 rfl 0 (by decide) ?_
    refine q_iald (pc' := 241) (v := .int (s 170 0)) ja_M_worked_240 rfl (by decide) (l := 220) rfl (by decide) rfl ?_
    exact q_iret ja_M_worked_241 rfl rfl (k2 h1)
  · intro h2
    refine q_aload_n (pc' := 74) ja_M_worked_73 rfl rfl ?_
    refine q_getf (pc' := 77) (v := .ref 163) ja_M_worked_74 rfl (by decide) ⟨rfl, by decide⟩ rfl ?_
    refine q_iload (pc' := 79) ja_M_worked_77 rfl rfl ?_
    refine q_iald (pc' := 80) (v := .int (s 163 x9.toNatClampNeg)) ja_M_worked_79 rfl (by decide) (l := 1800) rfl (k3 h2) rfl ?_
    refine q_istore (pc' := 82) (ls' := [some (.ref 146), some (.int x1), some (.int x2), some (.int x3), some (.int x4), some (.int x5), some (.int x6), some (.int x7), some (.int x8), some (.int x9), some (.int (s 163 x9.toNatClampNeg))]) ja_M_worked_80 rfl ⟨Nat.le_of_ble_eq_true rfl, rfl⟩ rfl ?_
    refine q_iload (pc' := 84) ja_M_worked_82 rfl rfl ?_
    refine q_if_eq (pc' := 87) ja_M_worked_84 rfl ?_ ?_
    · intro h3
      refine q_aload_n (pc' := 94) ja_M_worked_93 rfl rfl ?_
      refine q_getf (pc' := 97) (v := .ref 170) ja_M_worked_94 rfl (by decide) ⟨rfl, by decide⟩ rfl ?_
      refine q_iload (pc' := 99) ja_M_worked_97 rfl rfl ?_
      refine q_iload (pc' := 101) ja_M_worked_99 rfl rfl ?_
      refine q_if_ne (pc' := 104) ja_M_worked_101 rfl (fun h => absurd (h3) h) (fun _ => ?_)
      refine q_aload_n (pc' := 105) ja_M_worked_104 rfl rfl ?_
      refine q_getf (pc' := 108) (v := .ref 164) ja_M_worked_105 rfl (by decide) ⟨rfl, by decide⟩ rfl ?_
      refine q_iload (pc' := 110) ja_M_worked_108 rfl rfl ?_
      refine q_iald (pc' := 111) (v := .int (s 164 x9.toNatClampNeg)) ja_M_worked_110 rfl (by decide) (l := 1800) rfl (k4 h2 h3) rfl ?_
      refine q_goto ja_M_worked_111 ?_
      refine q_iast (pc' := 126) ja_M_worked_125 rfl (by decide) (l := 220) rfl (k5 h2 h3) ?_
      intro s1 e1
      refine q_iinc (pc' := 129) (ls' := [some (.ref 146), some (.int x1), some (.int x2), some (.int x3), some (.int x4), some (.int x5), some (.int x6), some (.int x7), some (.int (x8 + 1)), some (.int x9), some (.int (s 163 x9.toNatClampNeg))]) ja_M_worked_126 rfl rfl (x8 + 1) rfl ⟨Nat.le_of_ble_eq_true rfl, rfl⟩ rfl ?_
      refine q_goto ja_M_worked_129 ?_
      refine q_iinc (pc' := 232) (ls' := [some (.ref 146), some (.int x1), some (.int x2), some (.int x3), some (.int x4), some (.int x5), some (.int x6), some (.int x7), some (.int (x8 + 1)), some (.int (x9 + 1)), some (.int (s 163 x9.toNatClampNeg))]) ja_M_worked_229 rfl rfl (x9 + 1) rfl ⟨Nat.le_of_ble_eq_true rfl, rfl⟩ rfl ?_
      refine q_goto ja_M_worked_232 ?_
      exact (k6 h2 h3 s1 e1)
    · intro h4
      refine q_iload (pc' := 89) ja_M_worked_87 rfl rfl ?_
      refine q_iconst (pc' := 90) ja_M_worked_89 rfl 1 (by decide) ?_
      refine q_ic_ne (pc' := 93) ja_M_worked_90 rfl ?_ ?_
      · intro h5
        refine q_iload (pc' := 134) ja_M_worked_132 rfl rfl ?_
        refine q_iconst (pc' := 135) ja_M_worked_134 rfl 4 (by decide) ?_
        refine q_ic_ne (pc' := 138) ja_M_worked_135 rfl ?_ ?_
        · intro h6
          refine q_iload (pc' := 169) ja_M_worked_167 rfl rfl ?_
          refine q_bipush (pc' := 171) ja_M_worked_169 rfl 10 (by decide) ?_
          refine q_ic_ne (pc' := 174) ja_M_worked_171 rfl ?_ ?_
          · intro h7
            refine q_iinc (pc' := 199) (ls' := [some (.ref 146), some (.int x1), some (.int x2), some (.int x3), some (.int x4), some (.int x5), some (.int x6), some (.int x7), some (.int (x8 + (-1))), some (.int x9), some (.int (s 163 x9.toNatClampNeg))]) ja_M_worked_196 rfl rfl (x8 + (-1)) rfl ⟨Nat.le_of_ble_eq_true rfl, rfl⟩ rfl ?_
            refine q_aload_n (pc' := 200) ja_M_worked_199 rfl rfl ?_
            refine q_getf (pc' := 203) (v := .ref 170) ja_M_worked_200 rfl (by decide) ⟨rfl, by decide⟩ rfl ?_
            refine q_iload (pc' := 205) ja_M_worked_203 rfl rfl ?_
            refine q_iconst (pc' := 206) ja_M_worked_205 rfl 1 (by decide) ?_
            refine q_isub (pc' := 207) ja_M_worked_206 rfl ?_
            refine q_iload (pc' := 209) ja_M_worked_207 rfl rfl ?_
            refine q_aload_n (pc' := 210) ja_M_worked_209 rfl rfl ?_
            refine q_getf (pc' := 213) (v := .ref 170) ja_M_worked_210 rfl (by decide) ⟨rfl, by decide⟩ rfl ?_
            refine q_iload (pc' := 215) ja_M_worked_213 rfl rfl ?_
            refine q_iconst (pc' := 216) ja_M_worked_215 rfl 1 (by decide) ?_
            refine q_isub (pc' := 217) ja_M_worked_216 rfl ?_
            refine q_iald (pc' := 218) (v := .int (s 170 ((x8 + (-1)) - 1).toNatClampNeg)) ja_M_worked_217 rfl (by decide) (l := 220) rfl (k7 h2 h4 h5 h6 h7) rfl ?_
            refine q_aload_n (pc' := 219) ja_M_worked_218 rfl rfl ?_
            refine q_getf (pc' := 222) (v := .ref 170) ja_M_worked_219 rfl (by decide) ⟨rfl, by decide⟩ rfl ?_
            refine q_iload (pc' := 224) ja_M_worked_222 rfl rfl ?_
            refine q_iald (pc' := 225) (v := .int (s 170 (x8 + (-1)).toNatClampNeg)) ja_M_worked_224 rfl (by decide) (l := 220) rfl (k8 h2 h4 h5 h6 h7) rfl ?_
            refine q_stat (pc' := 228) (as := [.int (s 163 x9.toNatClampNeg), .int (s 170 ((x8 + (-1)) - 1).toNatClampNeg), .int (s 170 (x8 + (-1)).toNatClampNeg)]) (r := [.int ((x8 + (-1)) - 1), .ref 170]) ja_M_worked_225 rfl (by decide) rfl rfl ?_
            exact (k9 h2 h4 h5 h6 h7)
          · intro h8
            refine q_aload_n (pc' := 175) ja_M_worked_174 rfl rfl ?_
            refine q_getf (pc' := 178) (v := .ref 170) ja_M_worked_175 rfl (by decide) ⟨rfl, by decide⟩ rfl ?_
            refine q_iload (pc' := 180) ja_M_worked_178 rfl rfl ?_
            refine q_iconst (pc' := 181) ja_M_worked_180 rfl 1 (by decide) ?_
            refine q_isub (pc' := 182) ja_M_worked_181 rfl ?_
            refine q_aload_n (pc' := 183) ja_M_worked_182 rfl rfl ?_
            refine q_getf (pc' := 186) (v := .ref 170) ja_M_worked_183 rfl (by decide) ⟨rfl, by decide⟩ rfl ?_
            refine q_iload (pc' := 188) ja_M_worked_186 rfl rfl ?_
            refine q_iconst (pc' := 189) ja_M_worked_188 rfl 1 (by decide) ?_
            refine q_isub (pc' := 190) ja_M_worked_189 rfl ?_
            refine q_iald (pc' := 191) (v := .int (s 170 (x8 - 1).toNatClampNeg)) ja_M_worked_190 rfl (by decide) (l := 220) rfl (k10 h2 h4 h5 h6 h8) rfl ?_
            refine q_ineg (pc' := 192) ja_M_worked_191 rfl ?_
            refine q_iast (pc' := 193) ja_M_worked_192 rfl (by decide) (l := 220) rfl (k11 h2 h4 h5 h6 h8) ?_
            intro s2 e2
            refine q_goto ja_M_worked_193 ?_
            refine q_iinc (pc' := 232) (ls' := [some (.ref 146), some (.int x1), some (.int x2), some (.int x3), some (.int x4), some (.int x5), some (.int x6), some (.int x7), some (.int x8), some (.int (x9 + 1)), some (.int (s 163 x9.toNatClampNeg))]) ja_M_worked_229 rfl rfl (x9 + 1) rfl ⟨Nat.le_of_ble_eq_true rfl, rfl⟩ rfl ?_
            refine q_goto ja_M_worked_232 ?_
            exact (k12 h2 h4 h5 h6 h8 s2 e2)
        · intro h9
          refine q_aload_n (pc' := 139) ja_M_worked_138 rfl rfl ?_
          refine q_getf (pc' := 142) (v := .ref 170) ja_M_worked_139 rfl (by decide) ⟨rfl, by decide⟩ rfl ?_
          refine q_iload (pc' := 144) ja_M_worked_142 rfl rfl ?_
          refine q_iconst (pc' := 145) ja_M_worked_144 rfl 1 (by decide) ?_
          refine q_isub (pc' := 146) ja_M_worked_145 rfl ?_
          refine q_aload_n (pc' := 147) ja_M_worked_146 rfl rfl ?_
          refine q_getf (pc' := 150) (v := .ref 170) ja_M_worked_147 rfl (by decide) ⟨rfl, by decide⟩ rfl ?_
          refine q_iload (pc' := 152) ja_M_worked_150 rfl rfl ?_
          refine q_iconst (pc' := 153) ja_M_worked_152 rfl 1 (by decide) ?_
          refine q_isub (pc' := 154) ja_M_worked_153 rfl ?_
          refine q_iald (pc' := 155) (v := .int (s 170 (x8 - 1).toNatClampNeg)) ja_M_worked_154 rfl (by decide) (l := 220) rfl (k13 h2 h4 h5 h9) rfl ?_
          refine q_if_ne (pc' := 158) ja_M_worked_155 rfl ?_ ?_
          · intro h10
            refine q_iconst (pc' := 163) ja_M_worked_162 rfl 0 (by decide) ?_
            refine q_iast (pc' := 164) ja_M_worked_163 rfl (by decide) (l := 220) rfl (k14 h2 h4 h5 h9 h10) ?_
            intro s3 e3
            refine q_goto ja_M_worked_164 ?_
            refine q_iinc (pc' := 232) (ls' := [some (.ref 146), some (.int x1), some (.int x2), some (.int x3), some (.int x4), some (.int x5), some (.int x6), some (.int x7), some (.int x8), some (.int (x9 + 1)), some (.int (s 163 x9.toNatClampNeg))]) ja_M_worked_229 rfl rfl (x9 + 1) rfl ⟨Nat.le_of_ble_eq_true rfl, rfl⟩ rfl ?_
            refine q_goto ja_M_worked_232 ?_
            exact (k15 h2 h4 h5 h9 h10 s3 e3)
          · intro h11
            refine q_iconst (pc' := 159) ja_M_worked_158 rfl 1 (by decide) ?_
            refine q_goto ja_M_worked_159 ?_
            refine q_iast (pc' := 164) ja_M_worked_163 rfl (by decide) (l := 220) rfl (k16 h2 h4 h5 h9 h11) ?_
            intro s4 e4
            refine q_goto ja_M_worked_164 ?_
            refine q_iinc (pc' := 232) (ls' := [some (.ref 146), some (.int x1), some (.int x2), some (.int x3), some (.int x4), some (.int x5), some (.int x6), some (.int x7), some (.int x8), some (.int (x9 + 1)), some (.int (s 163 x9.toNatClampNeg))]) ja_M_worked_229 rfl rfl (x9 + 1) rfl ⟨Nat.le_of_ble_eq_true rfl, rfl⟩ rfl ?_
            refine q_goto ja_M_worked_232 ?_
            exact (k17 h2 h4 h5 h9 h11 s4 e4)
      · intro h12
        refine q_aload_n (pc' := 94) ja_M_worked_93 rfl rfl ?_
        refine q_getf (pc' := 97) (v := .ref 170) ja_M_worked_94 rfl (by decide) ⟨rfl, by decide⟩ rfl ?_
        refine q_iload (pc' := 99) ja_M_worked_97 rfl rfl ?_
        refine q_iload (pc' := 101) ja_M_worked_99 rfl rfl ?_
        refine q_if_ne (pc' := 104) ja_M_worked_101 rfl (fun _ => ?_) (fun h => absurd h (h4))
        refine q_aload_n (pc' := 115) ja_M_worked_114 rfl rfl ?_
        refine q_aload_n (pc' := 116) ja_M_worked_115 rfl rfl ?_
        refine q_getf (pc' := 119) (v := .ref 164) ja_M_worked_116 rfl (by decide) ⟨rfl, by decide⟩ rfl ?_
        refine q_iload (pc' := 121) ja_M_worked_119 rfl rfl ?_
        refine q_iald (pc' := 122) (v := .int (s 164 x9.toNatClampNeg)) ja_M_worked_121 rfl (by decide) (l := 1800) rfl (k18 h2 h4 h12) rfl ?_
        refine q_virt (pc' := 125) (c := 146) (as := [.int (s 164 x9.toNatClampNeg)]) (r := [.int x8, .ref 170]) ja_M_worked_122 rfl rfl rfl (by decide) ⟨rfl, by decide⟩ ?_
        exact (k19 h2 h4 h12)
set_option maxRecDepth 20000 in
theorem t2_M_worked_125 {G : jv_X} {d : Nat} {B : Option Value → jg_H → Prop} {s : jg_H} (x1 : Int32) (x2 : Int32) (x3 : Int32) (x4 : Int32) (x5 : Int32) (x6 : Int32) (x7 : Int32) (x8 : Int32) (x9 : Int32) (x10 : Int32) (y1 : Int32) (y2 : Int32)
    (k1 : jv_in y1 220 = true)
    (k2 : ∀ s1 : jg_H, s1 = jg_up s 170 y1.toNatClampNeg y2 → q_W G d jm_M_worked B 50 [some (.ref 146), some (.int x1), some (.int x2), some (.int x3), some (.int x4), some (.int x5), some (.int x6), some (.int x7), some (.int (x8 + 1)), some (.int (x9 + 1)), some (.int x10)] [] s1) :
    q_W G d jm_M_worked B 125 [some (.ref 146), some (.int x1), some (.int x2), some (.int x3), some (.int x4), some (.int x5), some (.int x6), some (.int x7), some (.int x8), some (.int x9), some (.int x10)] [.int y2, .int y1, .ref 170] s := by
  refine q_iast (pc' := 126) ja_M_worked_125 rfl (by decide) (l := 220) rfl k1 ?_
  intro s1 e1
  refine q_iinc (pc' := 129) (ls' := [some (.ref 146), some (.int x1), some (.int x2), some (.int x3), some (.int x4), some (.int x5), some (.int x6), some (.int x7), some (.int (x8 + 1)), some (.int x9), some (.int x10)]) ja_M_worked_126 rfl rfl (x8 + 1) rfl ⟨Nat.le_of_ble_eq_true rfl, rfl⟩ rfl ?_
  refine q_goto ja_M_worked_129 ?_
  refine q_iinc (pc' := 232) (ls' := [some (.ref 146), some (.int x1), some (.int x2), some (.int x3), some (.int x4), some (.int x5), some (.int x6), some (.int x7), some (.int (x8 + 1)), some (.int (x9 + 1)), some (.int x10)]) ja_M_worked_229 rfl rfl (x9 + 1) rfl ⟨Nat.le_of_ble_eq_true rfl, rfl⟩ rfl ?_
  refine q_goto ja_M_worked_232 ?_
  exact (k2 s1 e1)
set_option maxRecDepth 20000 in
theorem t2_M_worked_228 {G : jv_X} {d : Nat} {B : Option Value → jg_H → Prop} {s : jg_H} (x1 : Int32) (x2 : Int32) (x3 : Int32) (x4 : Int32) (x5 : Int32) (x6 : Int32) (x7 : Int32) (x8 : Int32) (x9 : Int32) (x10 : Int32) (y1 : Int32) (y2 : Int32)
    (k1 : jv_in y1 220 = true)
    (k2 : ∀ s1 : jg_H, s1 = jg_up s 170 y1.toNatClampNeg y2 → q_W G d jm_M_worked B 50 [some (.ref 146), some (.int x1), some (.int x2), some (.int x3), some (.int x4), some (.int x5), some (.int x6), some (.int x7), some (.int x8), some (.int (x9 + 1)), some (.int x10)] [] s1) :
    q_W G d jm_M_worked B 228 [some (.ref 146), some (.int x1), some (.int x2), some (.int x3), some (.int x4), some (.int x5), some (.int x6), some (.int x7), some (.int x8), some (.int x9), some (.int x10)] [.int y2, .int y1, .ref 170] s := by
  refine q_iast (pc' := 229) ja_M_worked_228 rfl (by decide) (l := 220) rfl k1 ?_
  intro s1 e1
  refine q_iinc (pc' := 232) (ls' := [some (.ref 146), some (.int x1), some (.int x2), some (.int x3), some (.int x4), some (.int x5), some (.int x6), some (.int x7), some (.int x8), some (.int (x9 + 1)), some (.int x10)]) ja_M_worked_229 rfl rfl (x9 + 1) rfl ⟨Nat.le_of_ble_eq_true rfl, rfl⟩ rfl ?_
  refine q_goto ja_M_worked_232 ?_
  exact (k2 s1 e1)
def f_two (o x y : Int32) : Int32 := if o = 2 then (if x = 0 then (if y = 0 then 0 else 1) else 1) else if o = 3 then (if x = 0 then 0 else if y = 0 then 0 else 1) else if o = 5 then (if x < y then 1 else 0) else if o = 6 then (if x = y then 1 else 0) else if o = 7 then x + y else if o = 8 then x - y else x * y
def v_up (S : Nat → Int32) (h : Nat) (x : Int32) : Nat → Int32 := fun i => if i = h then x else S i
/-- what a code comes to: n instructions from c on, h values stand in S -/
def v_ev (o v : Nat → Int32) (nm : Int32 → Int32) : Nat → Nat → Nat → (Nat → Int32) → Int32
  | 0, _, _, S => S 0
  | n + 1, c, h, S =>
    if o c = 0 then v_ev o v nm n (c + 1) (h + 1) (v_up S h (v c))
    else if o c = 1 then v_ev o v nm n (c + 1) (h + 1) (v_up S h (nm (v c)))
    else if o c = 4 then v_ev o v nm n (c + 1) h (v_up S (h - 1) (if S (h - 1) = 0 then 1 else 0))
    else if o c = 10 then v_ev o v nm n (c + 1) h (v_up S (h - 1) (-S (h - 1)))
    else v_ev o v nm n (c + 1) (h - 1) (v_up S (h - 2) (f_two (o c) (S (h - 2)) (S (h - 1))))
theorem v_up_eq {S S' : Nat → Int32} {h k : Nat} {x : Int32} (hS : ∀ i, i < h → S i = S' i) (i : Nat) (hi : i < h ∨ i = k) : v_up S k x i = v_up S' k x i := by
  unfold v_up
  by_cases e : i = k
  · rw [if_pos e, if_pos e]
  · rw [if_neg e, if_neg e]
    exact hS i (by omega)
/-- only the values that stand count -/
theorem v_ev_eq {o v : Nat → Int32} {nm : Int32 → Int32} : ∀ (n c h : Nat) (S S' : Nat → Int32), t_bal o n c h → (∀ i, i < h → S i = S' i) → v_ev o v nm n c h S = v_ev o v nm n c h S'
  | 0, c, h, S, S', hb, hS => by
    have hb : h = 1 := hb
    exact hS 0 (by omega)
  | n + 1, c, h, S, S', hb, hS => by
    unfold v_ev
    rcases hb with ⟨h1 | h1, hb⟩ | ⟨h1 | h1, hh, hb⟩ | ⟨e0, e1, e4, e10, hh, hb⟩
    · rw [if_pos h1, if_pos h1]
      exact v_ev_eq n _ _ _ _ hb (fun i hi => v_up_eq hS i (by omega))
    · have e0 : ¬ o c = 0 := by rw [h1]; decide
      rw [if_neg e0, if_neg e0, if_pos h1, if_pos h1]
      exact v_ev_eq n _ _ _ _ hb (fun i hi => v_up_eq hS i (by omega))
    · have e0 : ¬ o c = 0 := by rw [h1]; decide
      have e1 : ¬ o c = 1 := by rw [h1]; decide
      rw [if_neg e0, if_neg e0, if_neg e1, if_neg e1, if_pos h1, if_pos h1, hS (h - 1) (by omega)]
      exact v_ev_eq n _ _ _ _ hb (fun i hi => v_up_eq hS i (by omega))
    · have e0 : ¬ o c = 0 := by rw [h1]; decide
      have e1 : ¬ o c = 1 := by rw [h1]; decide
      have e4 : ¬ o c = 4 := by rw [h1]; decide
      rw [if_neg e0, if_neg e0, if_neg e1, if_neg e1, if_neg e4, if_neg e4, if_pos h1, if_pos h1, hS (h - 1) (by omega)]
      exact v_ev_eq n _ _ _ _ hb (fun i hi => v_up_eq hS i (by omega))
    · rw [if_neg e0, if_neg e0, if_neg e1, if_neg e1, if_neg e4, if_neg e4, if_neg e10, if_neg e10, hS (h - 1) (by omega), hS (h - 2) (by omega)]
      exact v_ev_eq n _ _ _ _ hb (fun i hi => v_up_eq hS i (by omega))
